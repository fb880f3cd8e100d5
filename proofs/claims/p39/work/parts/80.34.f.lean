/-! .. -/
theorem zix_nil {α : Type} : ∀ {l : List (List α)} {n : Nat}, l.length ≤ n → zix l n = []
  | [], _, _ => rfl
  | _ :: l, 0, h => by simp at h
  | _ :: l, n + 1, h => by
    unfold zix
    exact zix_nil (by simp only [List.length_cons] at h; omega)
theorem zrange_all {f : Nat → Bool} {n i : Nat} (h : ((List.range n).all f) = true) (hi : i < n) : f i = true := List.all_eq_true.mp h i (List.mem_range.mpr hi)
theorem zCs_len : zCs.length = 244 := by decide +kernel
theorem codeT_lt {k pc : Nat} {e : zE} (h : codeT k pc = some e) : k < 244 := by
  rcases Nat.lt_or_ge k 244 with h1 | h1
  · exact h1
  · unfold codeT at h
    have h2 : zix zCs k = [] := zix_nil (by rw [zCs_len]; exact h1)
    rw [h2] at h
    cases h
set_option maxRecDepth 100000 in
theorem zC240_len : (zix zCs 240).length ≤ 14 := by decide +kernel
theorem zmL240 : ∀ i, (zix (zix zCs 240) i).all (fun r => zokB 240 r.1 r.2) = true := by
  intro i
  rcases Nat.lt_or_ge i 8 with h | h
  · have := zrange_all zmL240_0 (i := i - 0) (by omega)
    rw [show 0 + (i - 0) = i by omega] at this
    exact this
  rcases Nat.lt_or_ge i 14 with h | h
  · have := zrange_all zmL240_8 (i := i - 8) (by omega)
    rw [show 8 + (i - 8) = i by omega] at this
    exact this
  have : zix (zix zCs 240) i = [] := zix_nil (Nat.le_trans zC240_len h)
  rw [this]
  rfl
set_option maxRecDepth 100000 in
theorem zC241_len : (zix zCs 241).length ≤ 26 := by decide +kernel
theorem zmL241 : ∀ i, (zix (zix zCs 241) i).all (fun r => zokB 241 r.1 r.2) = true := by
  intro i
  rcases Nat.lt_or_ge i 8 with h | h
  · have := zrange_all zmL241_0 (i := i - 0) (by omega)
    rw [show 0 + (i - 0) = i by omega] at this
    exact this
  rcases Nat.lt_or_ge i 16 with h | h
  · have := zrange_all zmL241_8 (i := i - 8) (by omega)
    rw [show 8 + (i - 8) = i by omega] at this
    exact this
  rcases Nat.lt_or_ge i 24 with h | h
  · have := zrange_all zmL241_16 (i := i - 16) (by omega)
    rw [show 16 + (i - 16) = i by omega] at this
    exact this
  rcases Nat.lt_or_ge i 26 with h | h
  · have := zrange_all zmL241_24 (i := i - 24) (by omega)
    rw [show 24 + (i - 24) = i by omega] at this
    exact this
  have : zix (zix zCs 241) i = [] := zix_nil (Nat.le_trans zC241_len h)
  rw [this]
  rfl
set_option maxRecDepth 100000 in
theorem zC243_len : (zix zCs 243).length ≤ 68 := by decide +kernel
theorem zmL243 : ∀ i, (zix (zix zCs 243) i).all (fun r => zokB 243 r.1 r.2) = true := by
  intro i
  rcases Nat.lt_or_ge i 8 with h | h
  · have := zrange_all zmL243_0 (i := i - 0) (by omega)
    rw [show 0 + (i - 0) = i by omega] at this
    exact this
  rcases Nat.lt_or_ge i 16 with h | h
  · have := zrange_all zmL243_8 (i := i - 8) (by omega)
    rw [show 8 + (i - 8) = i by omega] at this
    exact this
  rcases Nat.lt_or_ge i 24 with h | h
  · have := zrange_all zmL243_16 (i := i - 16) (by omega)
    rw [show 16 + (i - 16) = i by omega] at this
    exact this
  rcases Nat.lt_or_ge i 32 with h | h
  · have := zrange_all zmL243_24 (i := i - 24) (by omega)
    rw [show 24 + (i - 24) = i by omega] at this
    exact this
  rcases Nat.lt_or_ge i 40 with h | h
  · have := zrange_all zmL243_32 (i := i - 32) (by omega)
    rw [show 32 + (i - 32) = i by omega] at this
    exact this
  rcases Nat.lt_or_ge i 48 with h | h
  · have := zrange_all zmL243_40 (i := i - 40) (by omega)
    rw [show 40 + (i - 40) = i by omega] at this
    exact this
  rcases Nat.lt_or_ge i 56 with h | h
  · have := zrange_all zmL243_48 (i := i - 48) (by omega)
    rw [show 48 + (i - 48) = i by omega] at this
    exact this
  rcases Nat.lt_or_ge i 64 with h | h
  · have := zrange_all zmL243_56 (i := i - 56) (by omega)
    rw [show 56 + (i - 56) = i by omega] at this
    exact this
  rcases Nat.lt_or_ge i 68 with h | h
  · have := zrange_all zmL243_64 (i := i - 64) (by omega)
    rw [show 64 + (i - 64) = i by omega] at this
    exact this
  have : zix (zix zCs 243) i = [] := zix_nil (Nat.le_trans zC243_len h)
  rw [this]
  rfl
theorem zlive : ∀ k, k < 244 → zrl k = true → (k ∈ ([0, 1, 2, 3, 4, 5, 6, 7, 8, 9] : List Nat) ∨ k ∈ ([10, 11, 12, 13, 14, 15, 16, 17, 18, 19] : List Nat) ∨ k ∈ ([20, 21, 22, 23, 24, 25, 26, 27, 28, 29] : List Nat) ∨ k ∈ ([30, 31, 32, 33, 34, 35, 36, 37, 38, 39] : List Nat) ∨ k ∈ ([40, 41, 42, 43, 44, 45, 46, 47, 48, 49] : List Nat) ∨ k ∈ ([50, 51, 52, 53, 54, 55, 56, 57, 58, 59] : List Nat) ∨ k ∈ ([60, 61, 62, 63, 64, 65, 66, 67, 68, 69] : List Nat) ∨ k ∈ ([70, 71, 72, 73, 74, 75, 76, 77, 78, 79] : List Nat) ∨ k ∈ ([80, 81, 82, 83, 84, 85, 86, 87, 88, 89] : List Nat) ∨ k ∈ ([90, 91, 92, 93, 94, 95, 96, 97, 98, 99] : List Nat) ∨ k ∈ ([100, 101, 164, 165, 166, 167, 168, 169, 170, 171] : List Nat) ∨ k ∈ ([172, 173, 174, 175, 176, 177, 178, 179, 180, 181] : List Nat) ∨ k ∈ ([182, 186, 187, 220, 221, 222, 223, 224, 225, 226] : List Nat) ∨ k ∈ ([227, 228, 229, 230, 231, 232, 233, 234, 235, 236] : List Nat) ∨ k ∈ ([237, 238, 239, 242] : List Nat)) ∨ k = 240 ∨ k = 241 ∨ k = 243 := by
  have h : (List.range 244).all (fun k => !zrl k || ((([[0, 1, 2, 3, 4, 5, 6, 7, 8, 9], [10, 11, 12, 13, 14, 15, 16, 17, 18, 19], [20, 21, 22, 23, 24, 25, 26, 27, 28, 29], [30, 31, 32, 33, 34, 35, 36, 37, 38, 39], [40, 41, 42, 43, 44, 45, 46, 47, 48, 49], [50, 51, 52, 53, 54, 55, 56, 57, 58, 59], [60, 61, 62, 63, 64, 65, 66, 67, 68, 69], [70, 71, 72, 73, 74, 75, 76, 77, 78, 79], [80, 81, 82, 83, 84, 85, 86, 87, 88, 89], [90, 91, 92, 93, 94, 95, 96, 97, 98, 99], [100, 101, 164, 165, 166, 167, 168, 169, 170, 171], [172, 173, 174, 175, 176, 177, 178, 179, 180, 181], [182, 186, 187, 220, 221, 222, 223, 224, 225, 226], [227, 228, 229, 230, 231, 232, 233, 234, 235, 236], [237, 238, 239, 242]] : List (List Nat)).any (fun l => l.contains k)) || (Nat.beq k 240 || (Nat.beq k 241 || Nat.beq k 243)))) = true := by decide +kernel
  intro k hk hr
  have := List.all_eq_true.mp h k (List.mem_range.mpr hk)
  simp only [hr, Bool.not_true, Bool.false_or, Bool.or_eq_true, List.any_cons, List.any_nil, Bool.or_false] at this
  rcases this with this | h1 | h1 | h1
  · left
    simpa only [List.contains_iff_mem, or_assoc] using this
  · exact Or.inr (Or.inl (Nat.eq_of_beq_eq_true h1))
  · exact Or.inr (Or.inr (Or.inl (Nat.eq_of_beq_eq_true h1)))
  · exact Or.inr (Or.inr (Or.inr (Nat.eq_of_beq_eq_true h1)))
theorem zcode_ok : ∀ k pc e, zrl k = true → codeT k pc = some e → zok k pc e := by
  intro k pc e hr h
  have hk := codeT_lt h
  have hm := zlive k hk hr
  simp only [or_assoc] at hm
  rcases hm with m | m | m | m | m | m | m | m | m | m | m | m | m | m | m | rfl | rfl | rfl
  · exact zmB_ok (List.all_eq_true.mp zmG0 k m) pc e h
  · exact zmB_ok (List.all_eq_true.mp zmG1 k m) pc e h
  · exact zmB_ok (List.all_eq_true.mp zmG2 k m) pc e h
  · exact zmB_ok (List.all_eq_true.mp zmG3 k m) pc e h
  · exact zmB_ok (List.all_eq_true.mp zmG4 k m) pc e h
  · exact zmB_ok (List.all_eq_true.mp zmG5 k m) pc e h
  · exact zmB_ok (List.all_eq_true.mp zmG6 k m) pc e h
  · exact zmB_ok (List.all_eq_true.mp zmG7 k m) pc e h
  · exact zmB_ok (List.all_eq_true.mp zmG8 k m) pc e h
  · exact zmB_ok (List.all_eq_true.mp zmG9 k m) pc e h
  · exact zmB_ok (List.all_eq_true.mp zmG10 k m) pc e h
  · exact zmB_ok (List.all_eq_true.mp zmG11 k m) pc e h
  · exact zmB_ok (List.all_eq_true.mp zmG12 k m) pc e h
  · exact zmB_ok (List.all_eq_true.mp zmG13 k m) pc e h
  · exact zmB_ok (List.all_eq_true.mp zmG14 k m) pc e h
  · exact zokB_ok (List.all_eq_true.mp (zmL240 (pc / 16)) (pc, e) (zlk_mem h))
  · exact zokB_ok (List.all_eq_true.mp (zmL241 (pc / 16)) (pc, e) (zlk_mem h))
  · exact zokB_ok (List.all_eq_true.mp (zmL243 (pc / 16)) (pc, e) (zlk_mem h))

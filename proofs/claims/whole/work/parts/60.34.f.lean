/-! .. -/
set_option maxRecDepth 100000 in
theorem zC219_len : (zix zCs 219).length ≤ 144 := by decide +kernel
theorem zix_nil {α : Type} : ∀ {l : List (List α)} {n : Nat}, l.length ≤ n → zix l n = []
  | [], _, _ => rfl
  | _ :: l, 0, h => by simp at h
  | _ :: l, n + 1, h => by
    unfold zix
    exact zix_nil (by simp only [List.length_cons] at h; omega)
theorem zrange_all {f : Nat → Bool} {n i : Nat} (h : ((List.range n).all f) = true) (hi : i < n) : f i = true := List.all_eq_true.mp h i (List.mem_range.mpr hi)
theorem zmB_all : ∀ k, k < 219 → zmB k = true := by
  intro k hk
  rcases Nat.lt_or_ge k 10 with h | h
  · have := zrange_all zmG0 (i := k - 0) (by omega)
    rw [show 10 * 0 + (k - 0) = k by omega] at this
    exact this
  rcases Nat.lt_or_ge k 20 with h | h
  · have := zrange_all zmG1 (i := k - 10) (by omega)
    rw [show 10 * 1 + (k - 10) = k by omega] at this
    exact this
  rcases Nat.lt_or_ge k 30 with h | h
  · have := zrange_all zmG2 (i := k - 20) (by omega)
    rw [show 10 * 2 + (k - 20) = k by omega] at this
    exact this
  rcases Nat.lt_or_ge k 40 with h | h
  · have := zrange_all zmG3 (i := k - 30) (by omega)
    rw [show 10 * 3 + (k - 30) = k by omega] at this
    exact this
  rcases Nat.lt_or_ge k 50 with h | h
  · have := zrange_all zmG4 (i := k - 40) (by omega)
    rw [show 10 * 4 + (k - 40) = k by omega] at this
    exact this
  rcases Nat.lt_or_ge k 60 with h | h
  · have := zrange_all zmG5 (i := k - 50) (by omega)
    rw [show 10 * 5 + (k - 50) = k by omega] at this
    exact this
  rcases Nat.lt_or_ge k 70 with h | h
  · have := zrange_all zmG6 (i := k - 60) (by omega)
    rw [show 10 * 6 + (k - 60) = k by omega] at this
    exact this
  rcases Nat.lt_or_ge k 80 with h | h
  · have := zrange_all zmG7 (i := k - 70) (by omega)
    rw [show 10 * 7 + (k - 70) = k by omega] at this
    exact this
  rcases Nat.lt_or_ge k 90 with h | h
  · have := zrange_all zmG8 (i := k - 80) (by omega)
    rw [show 10 * 8 + (k - 80) = k by omega] at this
    exact this
  rcases Nat.lt_or_ge k 100 with h | h
  · have := zrange_all zmG9 (i := k - 90) (by omega)
    rw [show 10 * 9 + (k - 90) = k by omega] at this
    exact this
  rcases Nat.lt_or_ge k 110 with h | h
  · have := zrange_all zmG10 (i := k - 100) (by omega)
    rw [show 10 * 10 + (k - 100) = k by omega] at this
    exact this
  rcases Nat.lt_or_ge k 120 with h | h
  · have := zrange_all zmG11 (i := k - 110) (by omega)
    rw [show 10 * 11 + (k - 110) = k by omega] at this
    exact this
  rcases Nat.lt_or_ge k 130 with h | h
  · have := zrange_all zmG12 (i := k - 120) (by omega)
    rw [show 10 * 12 + (k - 120) = k by omega] at this
    exact this
  rcases Nat.lt_or_ge k 140 with h | h
  · have := zrange_all zmG13 (i := k - 130) (by omega)
    rw [show 10 * 13 + (k - 130) = k by omega] at this
    exact this
  rcases Nat.lt_or_ge k 150 with h | h
  · have := zrange_all zmG14 (i := k - 140) (by omega)
    rw [show 10 * 14 + (k - 140) = k by omega] at this
    exact this
  rcases Nat.lt_or_ge k 160 with h | h
  · have := zrange_all zmG15 (i := k - 150) (by omega)
    rw [show 10 * 15 + (k - 150) = k by omega] at this
    exact this
  rcases Nat.lt_or_ge k 170 with h | h
  · have := zrange_all zmG16 (i := k - 160) (by omega)
    rw [show 10 * 16 + (k - 160) = k by omega] at this
    exact this
  rcases Nat.lt_or_ge k 180 with h | h
  · have := zrange_all zmG17 (i := k - 170) (by omega)
    rw [show 10 * 17 + (k - 170) = k by omega] at this
    exact this
  rcases Nat.lt_or_ge k 190 with h | h
  · have := zrange_all zmG18 (i := k - 180) (by omega)
    rw [show 10 * 18 + (k - 180) = k by omega] at this
    exact this
  rcases Nat.lt_or_ge k 200 with h | h
  · have := zrange_all zmG19 (i := k - 190) (by omega)
    rw [show 10 * 19 + (k - 190) = k by omega] at this
    exact this
  rcases Nat.lt_or_ge k 210 with h | h
  · have := zrange_all zmG20 (i := k - 200) (by omega)
    rw [show 10 * 20 + (k - 200) = k by omega] at this
    exact this
  rcases Nat.lt_or_ge k 219 with h | h
  · have := zrange_all zmG21 (i := k - 210) (by omega)
    rw [show 210 + (k - 210) = k by omega] at this
    exact this
  omega
theorem zmL_all : ∀ i, (zix (zix zCs 219) i).all (fun r => zokB 219 r.1 r.2) = true := by
  intro i
  rcases Nat.lt_or_ge i 10 with h | h
  · have := zrange_all zmL0 (i := i - 0) (by omega)
    rw [show 10 * 0 + (i - 0) = i by omega] at this
    exact this
  rcases Nat.lt_or_ge i 20 with h | h
  · have := zrange_all zmL1 (i := i - 10) (by omega)
    rw [show 10 * 1 + (i - 10) = i by omega] at this
    exact this
  rcases Nat.lt_or_ge i 30 with h | h
  · have := zrange_all zmL2 (i := i - 20) (by omega)
    rw [show 10 * 2 + (i - 20) = i by omega] at this
    exact this
  rcases Nat.lt_or_ge i 40 with h | h
  · have := zrange_all zmL3 (i := i - 30) (by omega)
    rw [show 10 * 3 + (i - 30) = i by omega] at this
    exact this
  rcases Nat.lt_or_ge i 50 with h | h
  · have := zrange_all zmL4 (i := i - 40) (by omega)
    rw [show 10 * 4 + (i - 40) = i by omega] at this
    exact this
  rcases Nat.lt_or_ge i 60 with h | h
  · have := zrange_all zmL5 (i := i - 50) (by omega)
    rw [show 10 * 5 + (i - 50) = i by omega] at this
    exact this
  rcases Nat.lt_or_ge i 70 with h | h
  · have := zrange_all zmL6 (i := i - 60) (by omega)
    rw [show 10 * 6 + (i - 60) = i by omega] at this
    exact this
  rcases Nat.lt_or_ge i 80 with h | h
  · have := zrange_all zmL7 (i := i - 70) (by omega)
    rw [show 10 * 7 + (i - 70) = i by omega] at this
    exact this
  rcases Nat.lt_or_ge i 90 with h | h
  · have := zrange_all zmL8 (i := i - 80) (by omega)
    rw [show 10 * 8 + (i - 80) = i by omega] at this
    exact this
  rcases Nat.lt_or_ge i 100 with h | h
  · have := zrange_all zmL9 (i := i - 90) (by omega)
    rw [show 10 * 9 + (i - 90) = i by omega] at this
    exact this
  rcases Nat.lt_or_ge i 104 with h | h
  · have := zrange_all zmM0 (i := i - 100) (by omega)
    rw [show 100 + (i - 100) = i by omega] at this
    exact this
  rcases Nat.lt_or_ge i 108 with h | h
  · have := zrange_all zmM1 (i := i - 104) (by omega)
    rw [show 104 + (i - 104) = i by omega] at this
    exact this
  rcases Nat.lt_or_ge i 112 with h | h
  · have := zrange_all zmM2 (i := i - 108) (by omega)
    rw [show 108 + (i - 108) = i by omega] at this
    exact this
  rcases Nat.lt_or_ge i 116 with h | h
  · have := zrange_all zmM3 (i := i - 112) (by omega)
    rw [show 112 + (i - 112) = i by omega] at this
    exact this
  rcases Nat.lt_or_ge i 120 with h | h
  · have := zrange_all zmM4 (i := i - 116) (by omega)
    rw [show 116 + (i - 116) = i by omega] at this
    exact this
  rcases Nat.lt_or_ge i 124 with h | h
  · have := zrange_all zmM5 (i := i - 120) (by omega)
    rw [show 120 + (i - 120) = i by omega] at this
    exact this
  rcases Nat.lt_or_ge i 128 with h | h
  · have := zrange_all zmM6 (i := i - 124) (by omega)
    rw [show 124 + (i - 124) = i by omega] at this
    exact this
  rcases Nat.lt_or_ge i 132 with h | h
  · have := zrange_all zmM7 (i := i - 128) (by omega)
    rw [show 128 + (i - 128) = i by omega] at this
    exact this
  rcases Nat.lt_or_ge i 136 with h | h
  · have := zrange_all zmM8 (i := i - 132) (by omega)
    rw [show 132 + (i - 132) = i by omega] at this
    exact this
  rcases Nat.lt_or_ge i 140 with h | h
  · have := zrange_all zmM9 (i := i - 136) (by omega)
    rw [show 136 + (i - 136) = i by omega] at this
    exact this
  rcases Nat.lt_or_ge i 144 with h | h
  · have := zrange_all zmM10 (i := i - 140) (by omega)
    rw [show 140 + (i - 140) = i by omega] at this
    exact this
  have : zix (zix zCs 219) i = [] := zix_nil (Nat.le_trans zC219_len h)
  rw [this]
  rfl
theorem zCs_len : zCs.length = 220 := by decide +kernel
theorem codeT_lt {k pc : Nat} {e : zE} (h : codeT k pc = some e) : k < 220 := by
  rcases Nat.lt_or_ge k 220 with h1 | h1
  · exact h1
  · unfold codeT at h
    have h2 : zix zCs k = [] := zix_nil (by rw [zCs_len]; exact h1)
    rw [h2] at h
    cases h
theorem zcode_ok : ∀ k pc e, codeT k pc = some e → zok k pc e := by
  intro k pc e h
  have hk := codeT_lt h
  rcases Nat.lt_or_ge k 219 with h1 | h1
  · exact zmB_ok (zmB_all k h1) pc e h
  · have : k = 219 := by omega
    subst this
    exact zokB_ok (List.all_eq_true.mp (zmL_all (pc / 16)) (pc, e) (zlk_mem h))

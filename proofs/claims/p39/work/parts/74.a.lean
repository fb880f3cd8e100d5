/-! floats by their bits: halved, doubled, between 1 and 2 -/
def fb (e t : Nat) : UInt32 := UInt32.ofNat (e * 8388608 + t)
theorem fb_nat {e t : Nat} (he : e ≤ 254) (ht : t < 8388608) : (fb e t).toNat = e * 8388608 + t := by
  unfold fb
  rw [UInt32.toNat_ofNat']
  omega
theorem fb_val {e t : Nat} (he : 1 ≤ e ∧ e ≤ 254) (ht : t < 8388608) : FP.Core.val32 (fb e t) = .fin false (8388608 + t) ((e : Int) - 150) := by
  have h := FP.Core.decode_assemble FP.Core.b32 false e t (by show e < 2 ^ 8; omega) (by show t < 2 ^ 23; omega)
  have ea : FP.Core.assemble FP.Core.b32 false e t = e * 8388608 + t := by
    show (false.toNat * 2 ^ 8 + e) * 2 ^ 23 + t = _
    simp
  unfold FP.Core.val32
  rw [fb_nat he.2 ht, ← ea, h, if_neg (by show ¬ e = 2 ^ 8 - 1; omega), if_neg (by omega)]
  have e1 : FP.Core.Fmt.tails FP.Core.b32 = 8388608 := by decide
  rw [e1, FP.Core.qmin_b32]
  congr 1
  omega
theorem fb_nn {e t : Nat} (he : 1 ≤ e ∧ e ≤ 254) (ht : t < 8388608) : FP.Core.fIsNaN (fb e t) = false := by
  refine (FP.Core.notNaN_iff32 _).mpr ?_
  rw [fb_val he ht]
  intro q
  cases q
theorem fb_key {e t : Nat} (he : e ≤ 254) (ht : t < 8388608) : FP.Core.fkey (fb e t) = (e : Int) * 8388608 + t := by
  unfold FP.Core.fkey
  rw [fb_nat he ht, if_neg (by omega)]
  omega
theorem fb_fit {e t : Nat} (he : 1 ≤ e ∧ e ≤ 254) (ht : t < 8388608) : FP.Core.fits FP.Core.b32 (.fin false (8388608 + t) ((e : Int) - 150)) := by
  rw [← fb_val he ht]
  exact FP.Core.val32_fits _
theorem fb_half {e t : Nat} (he : 2 ≤ e ∧ e ≤ 254) (ht : t < 8388608) : FP.fdiv (fb e t) FP.fconst2 = fb (e - 1) t := by
  refine FP.Core.val32_inj (a := FP.Core.fdiv (fb e t) FP.Core.fconst2) ?_ ?_
  · exact (FP.Core.notNaN_iff32 _).mp (FP.Core.fdiv_out (fb_nn (by omega) ht) ⟨false, 8388608, -22, by decide +kernel⟩ (by
      rintro ⟨s, q, h⟩
      have : FP.Core.val32 FP.Core.fconst2 = .fin false 8388608 (-22) := by decide +kernel
      rw [this] at h
      cases h))
  · have h2 : FP.Core.val32 FP.Core.fconst2 = .fin false 8388608 (-22) := by decide +kernel
    rw [FP.Core.val32_fdiv, fb_val (by omega) ht, fb_val (by omega) ht, h2]
    show FP.Core.roundRatio FP.Core.b32 (false != false) (8388608 + t) 8388608 ((e : Int) - 150 - -22) = _
    rw [FP.Core.roundRatio_exact FP.Core.good_b32 (c := 8388608 + t) (q := (e : Int) - 151) (by decide) ?_ ?_]
    · show FP.Core.Datum.fin false _ _ = _
      congr 1
      omega
    · have := fb_fit (e := e - 1) (t := t) (by omega) ht
      rw [show ((e - 1 : Nat) : Int) - 150 = (e : Int) - 151 by omega] at this
      exact this
    · rw [show ((e : Int) - 150 - -22 - ((e : Int) - 151)).toNat = 23 by omega, show ((e : Int) - 151 - ((e : Int) - 150 - -22)).toNat = 0 by omega]
      omega
theorem fb_dbl {e t : Nat} (he : 1 ≤ e ∧ e ≤ 253) (ht : t < 8388608) : FP.fmul (fb e t) FP.fconst2 = fb (e + 1) t := by
  have h2 : FP.Core.val32 FP.Core.fconst2 = .fin false 8388608 (-22) := by decide +kernel
  refine FP.Core.val32_inj (a := FP.Core.fmul (fb e t) FP.Core.fconst2) ?_ ?_
  · exact (FP.Core.notNaN_iff32 _).mp (FP.Core.fmul_out ⟨_, _, _, fb_val (by omega) ht⟩ ⟨_, _, _, h2⟩)
  · rw [FP.Core.val32_fmul, fb_val (by omega) ht, fb_val (by omega) ht, h2]
    show FP.Core.roundRatio FP.Core.b32 (false != false) ((8388608 + t) * 8388608) 1 ((e : Int) - 150 + -22) = _
    rw [FP.Core.roundRatio_exact FP.Core.good_b32 (c := 8388608 + t) (q := (e : Int) - 149) (by decide) ?_ ?_]
    · show FP.Core.Datum.fin false _ _ = _
      congr 1
      omega
    · have := fb_fit (e := e + 1) (t := t) (by omega) ht
      rw [show ((e + 1 : Nat) : Int) - 150 = (e : Int) - 149 by omega] at this
      exact this
    · rw [show ((e : Int) - 150 + -22 - ((e : Int) - 149)).toNat = 0 by omega, show ((e : Int) - 149 - ((e : Int) - 150 + -22)).toNat = 23 by omega]
      omega
/-- the fraction of what is between 1 and 2 -/
theorem fb_frac {t : Nat} (ht : t < 8388608) : FP.Core.FInt (t : Int) (FP.fmul (FP.fsub (fb 127 t) FP.fconst1) 0x4b000000) ∧ FP.Core.fIsNaN (FP.fsub (fb 127 t) FP.fconst1) = false := by
  have hK : FP.Core.val32 0x4b000000 = .fin false 8388608 0 := by decide +kernel
  have h1 : FP.Core.val32 FP.Core.fconst1 = .fin false 8388608 (-23) := by decide +kernel
  have hs : FP.Core.val32 (FP.Core.fsub (fb 127 t) FP.Core.fconst1) = FP.Core.round FP.Core.b32 (.fin false t (-23)) := by
    rw [FP.Core.val32_fsub, fb_val (by omega) ht, h1]
    have e1 : FP.Core.inUnits (8388608 + t) (-23) (-23) = 8388608 + t := by
      unfold FP.Core.inUnits
      simp
    have e2 : FP.Core.inUnits 8388608 (-23) (-23) = 8388608 := by
      unfold FP.Core.inUnits
      simp
    have ev : FP.Core.sumUnits false (8388608 + t) (-23) true 8388608 (-23) (-23) = (t : Int) := by
      unfold FP.Core.sumUnits FP.Core.signed
      rw [e1, e2]
      simp
      omega
    show FP.Core.round FP.Core.b32 (FP.Core.Datum.fin (FP.Core.sumSign false true (FP.Core.sumUnits false (8388608 + t) (-23) true 8388608 (-23) (-23))) (FP.Core.sumUnits false (8388608 + t) (-23) true 8388608 (-23) (-23)).natAbs (-23)) = _
    rw [ev]
    have es : FP.Core.sumSign false true (t : Int) = false := by
      unfold FP.Core.sumSign
      by_cases g : (t : Int) = 0
      · rw [if_pos g]; rfl
      · rw [if_neg g]
        exact decide_eq_false (by omega)
    rw [es, Int.natAbs_natCast]
  obtain ⟨c, q, r1, r2⟩ := FP.Core.round_exact FP.Core.good_b32 false (c := t) (q := -23) (by show t < 2 ^ 24; omega) (by decide) (by decide)
  rw [r1] at hs
  have hq : -149 ≤ q := by
    have := FP.Core.val32_fits (FP.Core.fsub (fb 127 t) FP.Core.fconst1)
    rw [hs] at this
    exact this.2.1
  refine ⟨?_, (FP.Core.notNaN_iff32 _).mpr (by rw [show FP.Core.val32 (FP.fsub (fb 127 t) FP.fconst1) = .fin false c q from hs]; intro w; cases w)⟩
  unfold FP.Core.FInt
  rw [show FP.Core.val32 (FP.fmul (FP.fsub (fb 127 t) FP.fconst1) 0x4b000000) = FP.Core.round FP.Core.b32 (FP.Core.exactProduct (FP.Core.val32 (FP.Core.fsub (fb 127 t) FP.Core.fconst1)) (FP.Core.val32 0x4b000000)) from FP.Core.val32_fmul _ _, hs, hK]
  refine FP.Core.whole_round FP.Core.good_b32 FP.Core.wide_b32 (by show (t : Int).natAbs ≤ 2 ^ 24; omega) ?_
  show FP.Core.signed (false != false) (c * 8388608 * 2 ^ (q + 0).toNat) = (t : Int) * ((2 ^ (-(q + 0)).toNat : Nat) : Int)
  have r2 : c * 2 ^ (q - -149).toNat = t * 2 ^ 126 := by
    unfold FP.Core.inUnits at r2
    rw [FP.Core.qmin_b32] at r2
    exact r2
  have goal : c * 8388608 * 2 ^ (q + 0).toNat = t * 2 ^ (-(q + 0)).toNat := by
    rcases Int.le_total 0 q with g | g
    · obtain ⟨n, rfl⟩ := Int.eq_ofNat_of_zero_le g
      rw [show ((n : Int) + 0).toNat = n by omega, show (-((n : Int) + 0)).toNat = 0 by omega]
      rw [show ((n : Int) - -149).toNat = n + 149 by omega, Nat.pow_add] at r2
      have r3 : c * 2 ^ n * 8388608 * 2 ^ 126 = t * 2 ^ 126 := by
        rw [← r2, show (2 : Nat) ^ 149 = 8388608 * 2 ^ 126 by decide]
        ac_rfl
      have r4 := Nat.eq_of_mul_eq_mul_right (Nat.two_pow_pos 126) r3
      rw [Nat.pow_zero, Nat.mul_one, ← r4]
      ac_rfl
    · obtain ⟨n, hn⟩ := Int.eq_ofNat_of_zero_le (show 0 ≤ -q by omega)
      have hn2 : n ≤ 149 := by omega
      rw [show (q + 0).toNat = 0 by omega, show (-(q + 0)).toNat = n by omega]
      rw [show (q - -149).toNat = 149 - n by omega] at r2
      have r3 : c * 8388608 * 2 ^ 0 * 2 ^ (149 - n) = t * 2 ^ n * 2 ^ (149 - n) := by
        rw [Nat.mul_assoc t, ← Nat.pow_add, show n + (149 - n) = 149 by omega, show (2 : Nat) ^ 149 = 2 ^ 126 * 8388608 by decide, ← Nat.mul_assoc, ← r2]
        simp only [Nat.pow_zero, Nat.mul_one]
        ac_rfl
      exact Nat.eq_of_mul_eq_mul_right (Nat.two_pow_pos _) r3
  rw [goal]
  show ((t * 2 ^ (-(q + 0)).toNat : Nat) : Int) = _
  rw [Int.natCast_mul]
/-- a quotient isn't too small -/
theorem div_mag_ge {x y Ka L K : Nat} (hx : Ka * FP.Core.Fmt.tails FP.Core.b32 ≤ FP.Core.mag FP.Core.b32 x) (hxf : FP.Core.mag FP.Core.b32 x < FP.Core.infBits FP.Core.b32) (hy : FP.Core.mag FP.Core.b32 y < L * FP.Core.Fmt.tails FP.Core.b32) (hy0 : 0 < FP.Core.mag FP.Core.b32 y) (hL : L ≤ 255) (hKa : 1 ≤ Ka) (hK : 1 ≤ K) (hK2 : K ≤ 255) (h : K + 23 + L ≤ Ka + 149 + 1) :
    K * FP.Core.Fmt.tails FP.Core.b32 ≤ FP.Core.mag FP.Core.b32 (FP.Core.div FP.Core.b32 x y) := by
  have hf := FP.Core.good_b32
  obtain ⟨s, c, q, x1, x2, x3⟩ := FP.Core.fin_of_mag hf hxf
  obtain ⟨t, d, r, y1, y2, y3⟩ := FP.Core.fin_of_mag hf (FP.Core.mag_lt_inf hy hL)
  have hq := FP.Core.qmin_neg hf
  have hd0 : d ≠ 0 := by
    rintro rfl
    have h1 : FP.Core.zmag FP.Core.b32 (.fin t 0 r) = 0 := Nat.zero_mul _
    rw [h1] at y3
    have := FP.Core.unitsOf_eq_zero.mp y3.symm
    omega
  have hd : FP.Core.decode FP.Core.b32 (FP.Core.div FP.Core.b32 x y) = FP.Core.roundRatio FP.Core.b32 (s != t) c d (q - r) := by
    unfold FP.Core.div
    rw [FP.Core.decode_enc hf (FP.Core.quotient_fits hf _ _), x1, y1]
    simp only [FP.Core.quotient, if_neg hd0]
  have hx1 := x2.2.1
  have hy1 := y2.2.1
  refine FP.Core.mag_ge hf hd (by omega) (e0 := 2 * FP.Core.Fmt.qmin FP.Core.b32 - r) (by omega) (by omega) (Nat.mul_le_mul_right _ (by show K ≤ 2 ^ 8 - 1; omega)) ?_
  have l1 : FP.Core.Fmt.tails FP.Core.b32 * 2 ^ (Ka - 1) ≤ FP.Core.zmag FP.Core.b32 (.fin s c q) := by
    rw [x3, ← FP.Core.unitsOf_start hKa]
    exact FP.Core.unitsOf_le_iff.mpr hx
  obtain ⟨k1, l2⟩ := FP.Core.units_lt_start hy
  rw [← y3] at l2
  rw [FP.Core.unitsOf_start hK]
  have e1 : FP.Core.inUnits c (q - r) (2 * FP.Core.Fmt.qmin FP.Core.b32 - r) = FP.Core.zmag FP.Core.b32 (.fin s c q) * 2 ^ (-FP.Core.Fmt.qmin FP.Core.b32).toNat := by
    show c * _ = c * _ * _
    rw [Nat.mul_assoc, ← Nat.pow_add]; congr 2; omega
  have e2 : 2 ^ (FP.Core.Fmt.qmin FP.Core.b32 - (2 * FP.Core.Fmt.qmin FP.Core.b32 - r)).toNat * d = FP.Core.zmag FP.Core.b32 (.fin t d r) := by
    show _ = d * _
    rw [Nat.mul_comm]; congr 2; omega
  rw [e1, Nat.mul_assoc, e2]
  have e3 : (-FP.Core.Fmt.qmin FP.Core.b32).toNat = 149 := by rw [FP.Core.qmin_b32]; rfl
  have e4 : FP.Core.Fmt.tails FP.Core.b32 = 2 ^ 23 := FP.Core.tails_b32
  rw [e3]
  rw [e4] at l1 l2 ⊢
  calc 2 ^ 23 * 2 ^ (K - 1) * FP.Core.zmag FP.Core.b32 (.fin t d r) ≤ 2 ^ 23 * 2 ^ (K - 1) * (2 ^ 23 * 2 ^ (L - 1)) := Nat.mul_le_mul_left _ (Nat.le_of_lt l2)
    _ = 2 ^ 23 * 2 ^ (K - 1 + 23 + (L - 1)) := by rw [Nat.pow_add, Nat.pow_add]; ac_rfl
    _ ≤ 2 ^ 23 * 2 ^ (Ka - 1 + 149) := Nat.mul_le_mul_left _ (Nat.pow_le_pow_right (by decide) (by omega))
    _ = 2 ^ 23 * 2 ^ (Ka - 1) * 2 ^ 149 := by rw [Nat.pow_add]; ac_rfl
    _ ≤ FP.Core.zmag FP.Core.b32 (.fin s c q) * 2 ^ 149 := Nat.mul_le_mul_right _ l1

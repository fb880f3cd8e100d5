/-! floats: what is a number, what compares how -/
theorem fl_zn {x : UInt32} (h : FP.Core.fIsNaN x = false) : zn32 x := by
  have h1 : ¬ 2139095040 < x.toNat % 2 ^ 31 := fun q => by
    rw [(FP.Core.isNaN_bits32 x).mpr q] at h
    cases h
  show x &&& 0x7fffffff ≤ 0x7f800000
  rw [UInt32.le_iff_toNat_le, FP.Core.mask_toNat32]
  show _ ≤ 2139095040
  omega
theorem fl_int {i : Int} {x : UInt32} (h : FP.Core.FInt i x) : FP.Core.fIsNaN x = false := (FP.Core.notNaN_iff32 x).mpr (FP.Core.FInt_ne_nan h)
theorem fl_0 : FP.Core.FInt 0 FP.fconst0 := by
  have : (0 : Int32).toInt.natAbs ≤ 2 ^ 24 := by decide
  have h := FP.Core.i2f_int this
  have e : FP.Core.i2f 0 = FP.fconst0 := by decide +kernel
  rw [e] at h
  exact h
theorem fl_i2f {z : Int} (h : -16777216 ≤ z ∧ z ≤ 16777216) : FP.Core.FInt z (FP.i2f (Int32.ofInt z)) := by
  have e : (Int32.ofInt z).toInt = z := iI_t (by omega)
  have := FP.Core.i2f_int (a := Int32.ofInt z) (by rw [e]; omega)
  rw [e] at this
  exact this
theorem fl_add {i j : Int} {a b : UInt32} (ha : FP.Core.FInt i a) (hb : FP.Core.FInt j b) (h : -16777216 ≤ i + j ∧ i + j ≤ 16777216) : FP.Core.FInt (i + j) (FP.fadd a b) := FP.Core.fadd_int ha hb (by omega)
theorem fl_nz {z : Int} {x : UInt32} (h : FP.Core.FInt z x) (hz : z ≠ 0) : ¬ FP.Core.FZero x := by
  intro q
  have h1 := FP.Core.zero_iff32.mpr q
  have h2 := (FP.Core.fcmp_eq.mp h1).2.2
  rw [FP.Core.FInt_zval h, FP.Core.zval32_zero] at h2
  rcases Int.mul_eq_zero.mp h2 with h3 | h3
  · exact hz h3
  · have := FP.Core.one32_pos
    omega
theorem fl_div {a : UInt32} {z : Int} (ha : FP.Core.fIsNaN a = false) (hz : 1 ≤ z ∧ z ≤ 16777216) : FP.Core.fIsNaN (FP.fdiv a (FP.i2f (Int32.ofInt z))) = false :=
  FP.Core.fdiv_out ha (FP.Core.i2f_fin _) (fl_nz (fl_i2f (by omega)) (by omega))
theorem fl_sub {a : UInt32} {v : Int32} (ha : FP.Core.fIsNaN a = false) : FP.Core.fIsNaN (FP.fsub a (FP.i2f v)) = false := FP.Core.fsub_out ha (FP.Core.i2f_fin _)
/-- what is left without its sign -/
theorem fl_abs {a : UInt32} (ha : FP.Core.fIsNaN a = false) : FP.Core.fIsNaN (a &&& 0x7fffffff) = false := by
  cases h : FP.Core.fIsNaN (a &&& 0x7fffffff) with
  | false => rfl
  | true =>
    have h1 := (FP.Core.isNaN_bits32 _).mp h
    rw [FP.Core.mask_toNat32] at h1
    have h2 := (FP.Core.isNaN_bits32 a).mpr (by omega)
    rw [ha] at h2
    cases h2
theorem fl_lt {a b : UInt32} (ha : FP.Core.fIsNaN a = false) (hb : FP.Core.fIsNaN b = false) (op : CmpOp) : ((Op.cmpValue (FP.fcmp a b) op).toInt < 0) = (FP.Core.fkey a < FP.Core.fkey b) := by
  have h := FP.Core.fcmp_key ((FP.Core.notNaN_iff32 a).mp ha) ((FP.Core.notNaN_iff32 b).mp hb)
  have h' : FP.fcmp a b = some (compare (FP.Core.fkey a) (FP.Core.fkey b)) := h
  rw [h']
  apply propext
  rcases Int.lt_trichotomy (FP.Core.fkey a) (FP.Core.fkey b) with g | g | g
  · rw [(FP.Core.compare_lt_iff _ _).mpr g]
    exact ⟨fun _ => g, fun _ => by cases op <;> decide⟩
  · rw [(FP.Core.compare_eq_iff _ _).mpr g]
    exact ⟨fun q => absurd q (by cases op <;> decide), fun q => by omega⟩
  · rw [(FP.Core.compare_gt_iff _ _).mpr g]
    exact ⟨fun q => absurd q (by cases op <;> decide), fun q => by omega⟩
theorem fl_eq {a b : UInt32} (ha : FP.Core.fIsNaN a = false) (hb : FP.Core.fIsNaN b = false) (op : CmpOp) : ((Op.cmpValue (FP.fcmp a b) op).toInt = 0) = (FP.Core.fkey a = FP.Core.fkey b) := by
  have h := FP.Core.fcmp_key ((FP.Core.notNaN_iff32 a).mp ha) ((FP.Core.notNaN_iff32 b).mp hb)
  have h' : FP.fcmp a b = some (compare (FP.Core.fkey a) (FP.Core.fkey b)) := h
  rw [h']
  apply propext
  rcases Int.lt_trichotomy (FP.Core.fkey a) (FP.Core.fkey b) with g | g | g
  · rw [(FP.Core.compare_lt_iff _ _).mpr g]
    exact ⟨fun q => absurd q (by cases op <;> decide), fun q => by omega⟩
  · rw [(FP.Core.compare_eq_iff _ _).mpr g]
    exact ⟨fun _ => g, fun _ => by cases op <;> decide⟩
  · rw [(FP.Core.compare_gt_iff _ _).mpr g]
    exact ⟨fun q => absurd q (by cases op <;> decide), fun q => by omega⟩
theorem fl_gt {a b : UInt32} (ha : FP.Core.fIsNaN a = false) (hb : FP.Core.fIsNaN b = false) (op : CmpOp) : (0 < (Op.cmpValue (FP.fcmp a b) op).toInt) = (FP.Core.fkey b < FP.Core.fkey a) := by
  have h := FP.Core.fcmp_key ((FP.Core.notNaN_iff32 a).mp ha) ((FP.Core.notNaN_iff32 b).mp hb)
  have h' : FP.fcmp a b = some (compare (FP.Core.fkey a) (FP.Core.fkey b)) := h
  rw [h']
  apply propext
  rcases Int.lt_trichotomy (FP.Core.fkey a) (FP.Core.fkey b) with g | g | g
  · rw [(FP.Core.compare_lt_iff _ _).mpr g]
    exact ⟨fun q => absurd q (by cases op <;> decide), fun q => by omega⟩
  · rw [(FP.Core.compare_eq_iff _ _).mpr g]
    exact ⟨fun q => absurd q (by cases op <;> decide), fun q => by omega⟩
  · rw [(FP.Core.compare_gt_iff _ _).mpr g]
    exact ⟨fun _ => g, fun _ => by cases op <;> decide⟩
/-- the absolute value, by the machine's mask or by a comparison -/
theorem fl_key0 : FP.Core.fkey 0 = 0 := by decide +kernel
theorem fl_absk {a : UInt32} (ha : FP.Core.fIsNaN a = false) : FP.Core.fkey (if FP.Core.fkey a < 0 then FP.fneg a else a) = FP.Core.fkey (a &&& 0x7fffffff) := by
  have h0 : FP.Core.fIsNaN 0 = false := by decide +kernel
  have h := FP.Core.fcmp_key ((FP.Core.notNaN_iff32 a).mp ha) ((FP.Core.notNaN_iff32 0).mp h0)
  rw [fl_key0] at h
  rcases Int.lt_trichotomy (FP.Core.fkey a) 0 with g | g | g
  · rw [(FP.Core.compare_lt_iff _ _).mpr g] at h
    rw [if_pos g, FP.Core.abs_neg32 h, FP.fneg_core ha]
  · rw [(FP.Core.compare_eq_iff _ _).mpr g] at h
    rw [if_neg (by omega), FP.Core.abs_zero32 h, g, fl_key0]
  · rw [(FP.Core.compare_gt_iff _ _).mpr g] at h
    rw [if_neg (by omega), FP.Core.abs_pos32 h]
theorem fl_neg {a : UInt32} (ha : FP.Core.fIsNaN a = false) : FP.Core.fIsNaN (if FP.Core.fkey a < 0 then FP.fneg a else a) = false := by
  have h0 : FP.Core.fIsNaN 0 = false := by decide +kernel
  have h := FP.Core.fcmp_key ((FP.Core.notNaN_iff32 a).mp ha) ((FP.Core.notNaN_iff32 0).mp h0)
  rw [fl_key0] at h
  by_cases g : FP.Core.fkey a < 0
  · rw [(FP.Core.compare_lt_iff _ _).mpr g] at h
    rw [if_pos g, FP.fneg_core ha]
    have e := FP.Core.abs_neg32 h
    have := fl_abs ha
    rw [e] at this
    exact this
  · rw [if_neg g]
    exact ha

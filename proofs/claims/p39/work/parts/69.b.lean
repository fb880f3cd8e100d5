/-! the law calls the class -/
abbrev cV (o : Option (zR × zH)) (τ v : Int) (h1 : zH) (X1 D1 : zD) : Prop := τ = 0 ∧ o = some (.inl (some (.int (Int32.ofInt v))), zV (zU h1 X1) D1)
abbrev cE (o : Option (zR × zH)) (τ n : Int) (e : Nat) (h1 : zH) (X1 D1 : zD) : Prop := τ = n ∧ o = some (.inr e, zV (zU (zchg h1 1 6) X1) D1)
theorem zb_h {k pc nx e n t : Nat} {ls : zL} {st : zS} {h : zH} (hh : zhT k e pc = some (n, t)) : zback k pc nx ls st (.inr e, h) = zx k t (lclr ls n) [] h := by
  rw [zb_exc, hh]
theorem fl_d2 {x : UInt32} (h : FP.Core.fIsNaN x = false) : zn64 (FP.f2d x) ∧ FP.dcmp (FP.f2d x) (FP.f2d x) = some .eq := by
  have hd : FP.dIsNaN (FP.f2d x) = false := by
    rw [FP.f2d_nan]
    exact h
  constructor
  · have h1 : ¬ 9218868437227405312 < (FP.f2d x).toNat % 2 ^ 63 := fun q => by
      rw [show FP.dIsNaN (FP.f2d x) = true from (FP.Core.isNaN_bits (FP.f2d x)).mpr q] at hd
      cases hd
    show FP.f2d x &&& 0x7fffffffffffffff ≤ 0x7ff0000000000000
    rw [UInt64.le_iff_toNat_le, FP.Core.mask_toNat]
    show _ ≤ 9218868437227405312
    omega
  · refine FP.Core.dcmp_self ?_
    intro q
    have : FP.Core.isNaN FP.Core.b64 (FP.f2d x).toNat = true := decide_eq_true q
    rw [show FP.Core.isNaN FP.Core.b64 (FP.f2d x).toNat = FP.dIsNaN (FP.f2d x) from rfl, hd] at this
    cases this
abbrev cF' (o : Option (zR × zH)) (τ : Int) (v : UInt32) (h1 : zH) (X1 D1 : zD) : Prop := τ = 0 ∧ o = some (.inl (some (.float v)), zV (zU h1 X1) D1)

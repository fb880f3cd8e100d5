/-! the law's loop: what its steps need -/
theorem lw_l0 {x : Int64} : (if x < x then (1 : Int32) else if x = x then 0 else -1) = Int32.ofInt 0 := by
  rw [if_neg (show ¬ x < x from Int64.lt_irrefl), if_pos rfl]
  rfl
theorem lw_l1 {x : Int64} : ((if x < x then (1 : Int32) else 0).toInt = 0) = True := by
  rw [if_neg (show ¬ x < x from Int64.lt_irrefl)]
  exact eq_true rfl
theorem lw_c0 {op : CmpOp} : Op.cmpValue (some .eq) op = Int32.ofInt 0 := rfl
theorem lw_r (x : Int32) : iR x.toInt := ⟨x.le_toInt, x.toInt_lt⟩
theorem lw_ch (x : Int32) : ∃ md : Int, zchar x = Int32.ofInt md ∧ 0 ≤ md ∧ md ≤ 65535 := by
  have h : (x.toUInt32 % 65536).toNat < 65536 := by
    rw [UInt32.toNat_mod]
    exact Nat.mod_lt _ (by decide)
  refine ⟨((x.toUInt32 % 65536).toNat : Int), ?_, by omega, by omega⟩
  show (x.toUInt32 % 65536).toInt32 = _
  generalize x.toUInt32 % 65536 = u at h
  apply Int32.toInt_inj.mp
  rw [iI_t (by omega)]
  show (u.toBitVec).toInt = _
  rw [BitVec.toInt_eq_toNat_of_lt]
  · rfl
  · show 2 * u.toNat < 2 ^ 32
    omega
theorem lw_l {L : Nat} {xs : Nat → Int32} {H : zH} (z : zINV L xs H) : zl H 0 = L := z.1.2.2.2.2.2.1
theorem lw_m {L : Nat} {xs : Nat → Int32} {H : zH} (z : zINV L xs H) : ∀ n, n < L → zm H 0 n = .int (Int32.ofInt (xs n).toInt) := fun n hn => by
  rw [z.1.2.2.2.2.2.2.2.1 n hn, Int32.ofInt_toInt]
def okv (v : Value) : Bool := match v with
  | .ref a => decide (a < 70)
  | _ => true
theorem lw_I {L K n : Nat} {xs : Nat → Int32} {H : zH} {as : List Value} {q : zR × zH} (z : zINV L xs H) (hn : 70 ≤ zn H) (e : zc K n as H = some q) (ok : as.all okv = true) : zINV L xs q.2 ∧ 70 ≤ zn q.2 := by
  have hs : zSOK (zn H) as := fun v hv a ea => by
    have := List.all_eq_true.mp ok v hv
    rw [ea] at this
    have : a < 70 := of_decide_eq_true this
    exact Nat.lt_of_lt_of_le this hn
  have g := zx_inv zcode_ok K 0 (zentry n as) [] H q e z (zLOK_entry hs) (fun v hv => nomatch hv)
  exact ⟨g.1, Nat.le_trans hn g.2.1⟩
def lwT (L : Nat) (xs : Nat → Int32) (c : Nat) (I : Int) (o : Option (zR × zH)) : Prop := ∃ (h : zH) (X D : zD) (x6 x7 x8 : Option Value), o = zx 219 2268 [some (.ref 0), some (.ref 3), some (.ref 32), some (.ref 68), some (.ref 69), some (.int (Int32.ofInt I)), x6, x7, x8] [] (zV (zU h X) D) ∧ Inv (c + 1) h X D ∧ zINV L xs (zV (zU h X) D)

theorem tt_has {h : zH} {a : Nat} {c x : Int} (hk : zk h a = 4) (hc : zm h a 3 = .int (Int32.ofInt c)) (hb : -2147483648 ≤ c ∧ c < 2147483648) (hx : -2147483648 ≤ x ∧ x < 2147483648) :
    zc 33 2 [.ref a, .int (Int32.ofInt x)] h = some (.inl (some (.int (Int32.ofInt (if 0 ≤ x ∧ x < c ∧ x < 116 then 1 else 0)))), h) := by
  simp (disch := omega) only [zc, zentry, z33, zs0, zs1, zs2, zs3, zg_lo, lget, zso, if_true, hk, hc, iI_t]
  done

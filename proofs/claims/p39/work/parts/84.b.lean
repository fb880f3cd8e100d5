/-! each call of the class, as the law sees it -/
section STC
variable {L : Nat} {xs : Nat → Int32} {c n : Nat} {G : zD} {H : zH}
theorem St.x51 (p : St L xs c n G H) : sV L xs c n G 51 1 [.ref 3] H (0) (.int (Int32.ofInt (G 32 15))) := by
  obtain ⟨I, h, X, D, a, b, R, q, g, g9, gd, la, lb⟩ := p
  have u := k51 q
  have q1 : InvG c h D X D := ⟨q, gs.rf⟩
  have gg := g
  have ce := gg.ce
  have et : (0 : Int) = 0 := rfl
  have ev : D 32 15 = (G 32 15 : Int) := gg 32 15 (by omega)
  exact St.ofV I R g9 gd la lb rfl rfl g q1 ⟨rfl, u⟩ et ev
theorem St.x72 (p : St L xs c n G H) : sV L xs c n G 72 1 [.ref 3] H (0) (.int (Int32.ofInt (G 32 16))) := by
  obtain ⟨I, h, X, D, a, b, R, q, g, g9, gd, la, lb⟩ := p
  have u := k72 q
  have q1 : InvG c h D X D := ⟨q, gs.rf⟩
  have gg := g
  have ce := gg.ce
  have et : (0 : Int) = 0 := rfl
  have ev : D 32 16 = (G 32 16 : Int) := gg 32 16 (by omega)
  exact St.ofV I R g9 gd la lb rfl rfl g q1 ⟨rfl, u⟩ et ev
theorem St.x73 (p : St L xs c n G H) : sV L xs c n G 73 1 [.ref 3] H (0) (.int (Int32.ofInt (G 32 30))) := by
  obtain ⟨I, h, X, D, a, b, R, q, g, g9, gd, la, lb⟩ := p
  have u := k73 q
  have q1 : InvG c h D X D := ⟨q, gs.rf⟩
  have gg := g
  have ce := gg.ce
  have et : (0 : Int) = 0 := rfl
  have ev : D 32 30 = (G 32 30 : Int) := gg 32 30 (by omega)
  exact St.ofV I R g9 gd la lb rfl rfl g q1 ⟨rfl, u⟩ et ev
theorem St.x56 (p : St L xs c n G H) : sV L xs c n G 56 1 [.ref 3] H (0) (.int (Int32.ofInt (((lyF G).2.1.length : Int)))) := by
  obtain ⟨I, h, X, D, a, b, R, q, g, g9, gd, la, lb⟩ := p
  obtain ⟨X1, D1, q1, u⟩ := k56 q
  have gg := g.tr q1.2
  have ce := gg.ce
  have et : (0 : Int) = 0 := rfl
  have ev : ((lyF D1).2.1.length : Int) = (((lyF G).2.1.length : Int) : Int) := by rw [lyF_cc ce]
  exact St.ofV I R g9 gd la lb rfl rfl g q1 ⟨rfl, u⟩ et ev
theorem St.x62 (p : St L xs c n G H) : sV L xs c n G 62 3 [.ref 3] H (0) (.int (Int32.ofInt (slS (lyF G).2.1 (lyF G).2.1.length))) := by
  obtain ⟨I, h, X, D, a, b, R, q, g, g9, gd, la, lb⟩ := p
  obtain ⟨X1, D1, q1, u⟩ := k62 q
  have gg := g.tr q1.2
  have ce := gg.ce
  have et : (0 : Int) = 0 := rfl
  have ev : slS (lyF D1).2.1 (lyF D1).2.1.length = (slS (lyF G).2.1 (lyF G).2.1.length : Int) := by rw [lyF_cc ce]
  exact St.ofV I R g9 gd la lb rfl rfl g q1 ⟨rfl, u⟩ et ev
theorem St.x44 {x : Int} (p : St L xs c n G H) (hr : iR x) : sV L xs c n G 44 2 [.ref 3, .int (Int32.ofInt x)] H (mPlT G x) (.int (Int32.ofInt (G 35 x.toNat))) ∨ sE L xs c n G 44 2 [.ref 3, .int (Int32.ofInt x)] H (mPlT G x) 1 2 ∨ sE L xs c n G 44 2 [.ref 3, .int (Int32.ofInt x)] H (mPlT G x) 2 3 := by
  obtain ⟨I, h, X, D, a, b, R, q, g, g9, gd, la, lb⟩ := p
  have u := c44 q hr
  have q1 : InvG c h D X D := ⟨q, gs.rf⟩
  have gg := g
  have ce := gg.ce
  have et : mPlT D x = mPlT G x := mPlT_c ce
  have ev : D 35 x.toNat = (G 35 x.toNat : Int) := gg 35 _ (by omega)
  rcases u with u | u | u
  · exact Or.inl (St.ofV I R g9 gd la lb rfl rfl g q1 u et ev)
  · exact Or.inr (Or.inl (St.ofE I R g9 gd la lb rfl rfl g q1 u et))
  · exact Or.inr (Or.inr (St.ofE I R g9 gd la lb rfl rfl g q1 u et))
theorem St.x52 {x : Int} (p : St L xs c n G H) (hr : iR x) : sV L xs c n G 52 2 [.ref 3, .int (Int32.ofInt x)] H (qEv G x) (.int (Int32.ofInt (G 40 x.toNat))) ∨ sE L xs c n G 52 2 [.ref 3, .int (Int32.ofInt x)] H (qEv G x) 1 2 := by
  obtain ⟨I, h, X, D, a, b, R, q, g, g9, gd, la, lb⟩ := p
  have u := c52 q hr
  have q1 : InvG c h D X D := ⟨q, gs.rf⟩
  have gg := g
  have ce := gg.ce
  have et : qEv D x = qEv G x := qEv_c ce
  have ev : D 40 x.toNat = (G 40 x.toNat : Int) := gg 40 _ (by omega)
  rcases u with u | u
  · exact Or.inl (St.ofV I R g9 gd la lb rfl rfl g q1 u et ev)
  · exact Or.inr (St.ofE I R g9 gd la lb rfl rfl g q1 u et)
theorem St.x77 {x : Int} (p : St L xs c n G H) (hr : iR x) : sV L xs c n G 77 2 [.ref 3, .int (Int32.ofInt x)] H (mAiT G x) (.long (Int64.ofInt (G 39 x.toNat))) ∨ sE L xs c n G 77 2 [.ref 3, .int (Int32.ofInt x)] H (mAiT G x) 1 2 := by
  obtain ⟨I, h, X, D, a, b, R, q, g, g9, gd, la, lb⟩ := p
  have u := c77 q hr
  have q1 : InvG c h D X D := ⟨q, gs.rf⟩
  have gg := g
  have ce := gg.ce
  have et : mAiT D x = mAiT G x := mAiT_c ce
  have ev : (Value.long (Int64.ofInt (D 39 x.toNat))) = .long (Int64.ofInt (G 39 x.toNat)) := by rw [gg 39 _ (by omega)]
  rcases u with u | u
  · exact Or.inl (St.ofW I R g9 gd la lb rfl rfl g q1 rfl u et ev)
  · exact Or.inr (St.ofE I R g9 gd la lb rfl rfl g q1 u et)
theorem St.x74 {x : Int} (p : St L xs c n G H) (hr : iR x) : sV L xs c n G 74 2 [.ref 3, .int (Int32.ofInt x)] H (mEnT G x) (.int (Int32.ofInt (if mEnT G x = 0 then G 66 x.toNat else 0))) ∨ sE L xs c n G 74 2 [.ref 3, .int (Int32.ofInt x)] H (mEnT G x) 1 2 := by
  obtain ⟨I, h, X, D, a, b, R, q, g, g9, gd, la, lb⟩ := p
  have u := c74 q hr
  have q1 : InvG c h D X D := ⟨q, gs.rf⟩
  have gg := g
  have ce := gg.ce
  have et : mEnT D x = mEnT G x := mEnT_c ce
  have ev : (if mEnT D x = 0 then D 66 x.toNat else 0) = (if mEnT G x = 0 then G 66 x.toNat else 0 : Int) := by rw [mEnT_c ce, gg 66 _ (by omega)]
  rcases u with u | u
  · exact Or.inl (St.ofV I R g9 gd la lb rfl rfl g q1 u et ev)
  · exact Or.inr (St.ofE I R g9 gd la lb rfl rfl g q1 u et)
theorem St.x75 {x : Int} (p : St L xs c n G H) (hr : iR x) : sV L xs c n G 75 2 [.ref 3, .int (Int32.ofInt x)] H (mEnT G x) (.int (Int32.ofInt (if mEnT G x = 0 then G 67 x.toNat else 0))) ∨ sE L xs c n G 75 2 [.ref 3, .int (Int32.ofInt x)] H (mEnT G x) 1 2 := by
  obtain ⟨I, h, X, D, a, b, R, q, g, g9, gd, la, lb⟩ := p
  have u := c75 q hr
  have q1 : InvG c h D X D := ⟨q, gs.rf⟩
  have gg := g
  have ce := gg.ce
  have et : mEnT D x = mEnT G x := mEnT_c ce
  have ev : (if mEnT D x = 0 then D 67 x.toNat else 0) = (if mEnT G x = 0 then G 67 x.toNat else 0 : Int) := by rw [mEnT_c ce, gg 67 _ (by omega)]
  rcases u with u | u
  · exact Or.inl (St.ofV I R g9 gd la lb rfl rfl g q1 u et ev)
  · exact Or.inr (St.ofE I R g9 gd la lb rfl rfl g q1 u et)
theorem St.x53 {x : Int} (p : St L xs c n G H) (hr : iR x) : sV L xs c n G 53 3 [.ref 3, .int (Int32.ofInt x)] H (qEv G x) (.int (Int32.ofInt (rFate G x.toNat))) ∨ sE L xs c n G 53 3 [.ref 3, .int (Int32.ofInt x)] H (qEv G x) 1 2 := by
  obtain ⟨I, h, X, D, a, b, R, q, g, g9, gd, la, lb⟩ := p
  obtain ⟨X1, D1, q1, u⟩ := c53 q hr
  have gg := g.tr q1.2
  have ce := gg.ce
  have et : qEv D1 x = qEv G x := qEv_c ce
  have ev : rFate D1 x.toNat = (rFate G x.toNat : Int) := rFate_c ce
  rcases u with u | u
  · exact Or.inl (St.ofV I R g9 gd la lb rfl rfl g q1 u et ev)
  · exact Or.inr (St.ofE I R g9 gd la lb rfl rfl g q1 u et)
theorem St.x54 {x : Int} (p : St L xs c n G H) (hr : iR x) : sV L xs c n G 54 2 [.ref 3, .int (Int32.ofInt x)] H (qAi G x) (.int (Int32.ofInt (if qAi G x = 0 then rSt G x.toNat else 0))) ∨ sE L xs c n G 54 2 [.ref 3, .int (Int32.ofInt x)] H (qAi G x) 1 2 ∨ sE L xs c n G 54 2 [.ref 3, .int (Int32.ofInt x)] H (qAi G x) 2 4 := by
  obtain ⟨I, h, X, D, a, b, R, q, g, g9, gd, la, lb⟩ := p
  obtain ⟨X1, D1, q1, -, u⟩ := c54 q hr
  have gg := g.tr q1.2
  have ce := gg.ce
  have et : qAi D1 x = qAi G x := qAi_c ce
  have ev : (if qAi D1 x = 0 then rSt D1 x.toNat else 0) = (if qAi G x = 0 then rSt G x.toNat else 0 : Int) := by rw [qAi_c ce, rSt_c ce]
  rcases u with u | u | u
  · exact Or.inl (St.ofV I R g9 gd la lb rfl rfl g q1 u et ev)
  · exact Or.inr (Or.inl (St.ofE I R g9 gd la lb rfl rfl g q1 u et))
  · exact Or.inr (Or.inr (St.ofE I R g9 gd la lb rfl rfl g q1 u et))
theorem St.x55 {x : Int} (p : St L xs c n G H) (hr : iR x) : sV L xs c n G 55 2 [.ref 3, .int (Int32.ofInt x)] H (qAi G x) (.int (Int32.ofInt (if qAi G x = 0 then rEn G x.toNat else 0))) ∨ sE L xs c n G 55 2 [.ref 3, .int (Int32.ofInt x)] H (qAi G x) 1 2 ∨ sE L xs c n G 55 2 [.ref 3, .int (Int32.ofInt x)] H (qAi G x) 2 4 := by
  obtain ⟨I, h, X, D, a, b, R, q, g, g9, gd, la, lb⟩ := p
  obtain ⟨X1, D1, q1, -, u⟩ := c55 q hr
  have gg := g.tr q1.2
  have ce := gg.ce
  have et : qAi D1 x = qAi G x := qAi_c ce
  have ev : (if qAi D1 x = 0 then rEn D1 x.toNat else 0) = (if qAi G x = 0 then rEn G x.toNat else 0 : Int) := by rw [qAi_c ce, rEn_c ce]
  rcases u with u | u | u
  · exact Or.inl (St.ofV I R g9 gd la lb rfl rfl g q1 u et ev)
  · exact Or.inr (Or.inl (St.ofE I R g9 gd la lb rfl rfl g q1 u et))
  · exact Or.inr (Or.inr (St.ofE I R g9 gd la lb rfl rfl g q1 u et))
theorem St.x57 {x : Int} (p : St L xs c n G H) (hr : iR x) : sV L xs c n G 57 2 [.ref 3, .int (Int32.ofInt x)] H (qSp G x) (.int (Int32.ofInt (if qSp G x = 0 then (spK (lyF G).2.1 x.toNat).1 else 0))) ∨ sE L xs c n G 57 2 [.ref 3, .int (Int32.ofInt x)] H (qSp G x) 1 2 := by
  obtain ⟨I, h, X, D, a, b, R, q, g, g9, gd, la, lb⟩ := p
  obtain ⟨X1, D1, q1, -, u⟩ := c57 q hr
  have gg := g.tr q1.2
  have ce := gg.ce
  have et : qSp D1 x = qSp G x := qSp_c ce
  have ev : (if qSp D1 x = 0 then (spK (lyF D1).2.1 x.toNat).1 else 0) = (if qSp G x = 0 then (spK (lyF G).2.1 x.toNat).1 else 0 : Int) := by rw [qSp_c ce, lyF_cc ce]
  rcases u with u | u
  · exact Or.inl (St.ofV I R g9 gd la lb rfl rfl g q1 u et ev)
  · exact Or.inr (St.ofE I R g9 gd la lb rfl rfl g q1 u et)
theorem St.x58 {x : Int} (p : St L xs c n G H) (hr : iR x) : sV L xs c n G 58 2 [.ref 3, .int (Int32.ofInt x)] H (qSp G x) (.int (Int32.ofInt (if qSp G x = 0 then (spK (lyF G).2.1 x.toNat).2.2.1 else 0))) ∨ sE L xs c n G 58 2 [.ref 3, .int (Int32.ofInt x)] H (qSp G x) 1 2 := by
  obtain ⟨I, h, X, D, a, b, R, q, g, g9, gd, la, lb⟩ := p
  obtain ⟨X1, D1, q1, -, u⟩ := c58 q hr
  have gg := g.tr q1.2
  have ce := gg.ce
  have et : qSp D1 x = qSp G x := qSp_c ce
  have ev : (if qSp D1 x = 0 then (spK (lyF D1).2.1 x.toNat).2.2.1 else 0) = (if qSp G x = 0 then (spK (lyF G).2.1 x.toNat).2.2.1 else 0 : Int) := by rw [qSp_c ce, lyF_cc ce]
  rcases u with u | u
  · exact Or.inl (St.ofV I R g9 gd la lb rfl rfl g q1 u et ev)
  · exact Or.inr (St.ofE I R g9 gd la lb rfl rfl g q1 u et)
theorem St.x59 {x : Int} (p : St L xs c n G H) (hr : iR x) : sV L xs c n G 59 2 [.ref 3, .int (Int32.ofInt x)] H (qSp G x) (.int (Int32.ofInt (if qSp G x = 0 then (spK (lyF G).2.1 x.toNat).2.2.2 - (spK (lyF G).2.1 x.toNat).2.2.1 else 0))) ∨ sE L xs c n G 59 2 [.ref 3, .int (Int32.ofInt x)] H (qSp G x) 1 2 := by
  obtain ⟨I, h, X, D, a, b, R, q, g, g9, gd, la, lb⟩ := p
  obtain ⟨X1, D1, q1, -, u⟩ := c59 q hr
  have gg := g.tr q1.2
  have ce := gg.ce
  have et : qSp D1 x = qSp G x := qSp_c ce
  have ev : (if qSp D1 x = 0 then (spK (lyF D1).2.1 x.toNat).2.2.2 - (spK (lyF D1).2.1 x.toNat).2.2.1 else 0) = (if qSp G x = 0 then (spK (lyF G).2.1 x.toNat).2.2.2 - (spK (lyF G).2.1 x.toNat).2.2.1 else 0 : Int) := by rw [qSp_c ce, lyF_cc ce]
  rcases u with u | u
  · exact Or.inl (St.ofV I R g9 gd la lb rfl rfl g q1 u et ev)
  · exact Or.inr (St.ofE I R g9 gd la lb rfl rfl g q1 u et)
theorem St.x60 {x : Int} (p : St L xs c n G H) (hr : iR x) : sV L xs c n G 60 2 [.ref 3, .int (Int32.ofInt x)] H (qSec x) (.int (Int32.ofInt (if qSec x = 0 then rAir G x else 0))) ∨ sE L xs c n G 60 2 [.ref 3, .int (Int32.ofInt x)] H (qSec x) 1 0 := by
  obtain ⟨I, h, X, D, a, b, R, q, g, g9, gd, la, lb⟩ := p
  obtain ⟨X1, D1, q1, -, u⟩ := c60 q hr
  have gg := g.tr q1.2
  have ce := gg.ce
  have et : qSec x = qSec x := rfl
  have ev : (if qSec x = 0 then rAir D1 x else 0) = (if qSec x = 0 then rAir G x else 0 : Int) := by rw [rAir_c ce]
  rcases u with u | u
  · exact Or.inl (St.ofV I R g9 gd la lb rfl rfl g q1 u et ev)
  · exact Or.inr (St.ofE I R g9 gd la lb rfl rfl g q1 u et)
theorem St.x61 {x : Int} (p : St L xs c n G H) (hr : iR x) : sV L xs c n G 61 2 [.ref 3, .int (Int32.ofInt x)] H (qSec x) (.int (Int32.ofInt (if qSec x = 0 then rAir G x else 0))) ∨ sE L xs c n G 61 2 [.ref 3, .int (Int32.ofInt x)] H (qSec x) 1 0 := by
  obtain ⟨I, h, X, D, a, b, R, q, g, g9, gd, la, lb⟩ := p
  obtain ⟨X1, D1, q1, -, u⟩ := c61 q hr
  have gg := g.tr q1.2
  have ce := gg.ce
  have et : qSec x = qSec x := rfl
  have ev : (if qSec x = 0 then rAir D1 x else 0) = (if qSec x = 0 then rAir G x else 0 : Int) := by rw [rAir_c ce]
  rcases u with u | u
  · exact Or.inl (St.ofV I R g9 gd la lb rfl rfl g q1 u et ev)
  · exact Or.inr (St.ofE I R g9 gd la lb rfl rfl g q1 u et)
theorem St.x63 {x : Int} (p : St L xs c n G H) (hr : iR x) : sV L xs c n G 63 4 [.ref 3, .int (Int32.ofInt x)] H (qSec x) (.int (Int32.ofInt (if qSec x = 0 then shE G x (G 32 15).toNat else 0))) ∨ sE L xs c n G 63 4 [.ref 3, .int (Int32.ofInt x)] H (qSec x) 1 0 := by
  obtain ⟨I, h, X, D, a, b, R, q, g, g9, gd, la, lb⟩ := p
  obtain ⟨X1, D1, q1, -, u⟩ := c63 q hr
  have gg := g.tr q1.2
  have ce := gg.ce
  have h15 : G 32 15 ≤ 12 := by
    have := q.1.1.2.1.1.2
    rw [g 32 15 (by omega)] at this
    exact this
  have et : qSec x = qSec x := rfl
  have ev : (if qSec x = 0 then shE D1 x (D1 32 15).toNat else 0) = (if qSec x = 0 then shE G x (G 32 15).toNat else 0 : Int) := by rw [gg 32 15 (by omega), shE_c ce _ (by omega)]
  rcases u with u | u
  · exact Or.inl (St.ofV I R g9 gd la lb rfl rfl g q1 u et ev)
  · exact Or.inr (St.ofE I R g9 gd la lb rfl rfl g q1 u et)
theorem St.x64 {x i : Int} (p : St L xs c n G H) (hr : iR x) (hi : iR i) : sV L xs c n G 64 6 [.ref 3, .int (Int32.ofInt x), .int (Int32.ofInt i)] H (qSs G x i) (.int (Int32.ofInt (qSsV G x i))) ∨ sE L xs c n G 64 6 [.ref 3, .int (Int32.ofInt x), .int (Int32.ofInt i)] H (qSs G x i) 1 2 ∨ sE L xs c n G 64 6 [.ref 3, .int (Int32.ofInt x), .int (Int32.ofInt i)] H (qSs G x i) 2 4 := by
  obtain ⟨I, h, X, D, a, b, R, q, g, g9, gd, la, lb⟩ := p
  obtain ⟨X1, D1, q1, -, u⟩ := c64 q hr hi
  have gg := g.tr q1.2
  have ce := gg.ce
  have h15 : G 32 15 ≤ 12 := by
    have := q.1.1.2.1.1.2
    rw [g 32 15 (by omega)] at this
    exact this
  have et : qSs D1 x i = qSs G x i := (qSs_c ce h15).1
  have ev : qSsV D1 x i = (qSsV G x i : Int) := (qSs_c ce h15).2
  rcases u with u | u | u
  · exact Or.inl (St.ofV I R g9 gd la lb rfl rfl g q1 u et ev)
  · exact Or.inr (Or.inl (St.ofE I R g9 gd la lb rfl rfl g q1 u et))
  · exact Or.inr (Or.inr (St.ofE I R g9 gd la lb rfl rfl g q1 u et))
theorem St.x65 (p : St L xs c n G H) : sV L xs c n G 65 1 [.ref 3] H (qMn G) (.float (if qMn G = 0 then rMn G else FP.fconst0)) ∨ sE L xs c n G 65 1 [.ref 3] H (qMn G) 1 4 := by
  obtain ⟨I, h, X, D, a, b, R, q, g, g9, gd, la, lb⟩ := p
  obtain ⟨X1, D1, q1, u⟩ := k65 q
  have gg := g.tr q1.2
  have ce := gg.ce
  have et : qMn D1 = qMn G := qMn_c ce
  have ev : (Value.float (if qMn D1 = 0 then rMn D1 else FP.fconst0)) = .float (if qMn G = 0 then rMn G else FP.fconst0) := by rw [qMn_c ce, rMn_c ce]
  rcases u with u | u
  · exact Or.inl (St.ofW I R g9 gd la lb rfl rfl g q1 rfl u et ev)
  · exact Or.inr (St.ofE I R g9 gd la lb rfl rfl g q1 u et)
theorem St.x67 {gap lev : Int} (p : St L xs c n G H) (hg : iR gap) (hl : iR lev) : sV L xs c n G 67 3 [.ref 3, .int (Int32.ofInt gap), .int (Int32.ofInt lev)] H (mAsT G gap lev) (.int (Int32.ofInt (if mAsT G gap lev = 0 then (popB 12 (bestM G gap lev) : Int) else 0))) ∨ sE L xs c n G 67 3 [.ref 3, .int (Int32.ofInt gap), .int (Int32.ofInt lev)] H (mAsT G gap lev) 1 0 ∨ sE L xs c n G 67 3 [.ref 3, .int (Int32.ofInt gap), .int (Int32.ofInt lev)] H (mAsT G gap lev) 2 4 := by
  obtain ⟨I, h, X, D, a, b, R, q, g, g9, gd, la, lb⟩ := p
  obtain ⟨D1, q1, u⟩ := k67 q hg hl
  have gg := g.tr q1.2
  have ce := gg.ce
  have et : mAsT D gap lev = mAsT G gap lev := mAsT_c g.ce
  have ev : (if mAsT D gap lev = 0 then (popB 12 (bestM D gap lev) : Int) else 0) = (if mAsT G gap lev = 0 then (popB 12 (bestM G gap lev) : Int) else 0 : Int) := by rw [mAsT_c g.ce, g.ce.best]
  rcases u with u | u | u
  · exact Or.inl (St.ofV I R g9 gd la lb rfl rfl g q1 u et ev)
  · exact Or.inr (Or.inl (St.ofE I R g9 gd la lb rfl rfl g q1 u et))
  · exact Or.inr (Or.inr (St.ofE I R g9 gd la lb rfl rfl g q1 u et))
theorem St.x68 {gap lev : Int} (p : St L xs c n G H) (hg : iR gap) (hl : iR lev) : sV L xs c n G 68 4 [.ref 3, .int (Int32.ofInt gap), .int (Int32.ofInt lev)] H (mAsT G gap lev) (.int (Int32.ofInt (if mAsT G gap lev = 0 then (popB 12 (bestM G gap lev) : Int) else 0))) ∨ sE L xs c n G 68 4 [.ref 3, .int (Int32.ofInt gap), .int (Int32.ofInt lev)] H (mAsT G gap lev) 1 0 ∨ sE L xs c n G 68 4 [.ref 3, .int (Int32.ofInt gap), .int (Int32.ofInt lev)] H (mAsT G gap lev) 2 4 := by
  obtain ⟨I, h, X, D, a, b, R, q, g, g9, gd, la, lb⟩ := p
  have u := k68 q hg hl
  have q1 : InvG c h D X D := ⟨q, gs.rf⟩
  have gg := g
  have ce := gg.ce
  have et : mAsT D gap lev = mAsT G gap lev := mAsT_c g.ce
  have ev : (if mAsT D gap lev = 0 then (popB 12 (bestM D gap lev) : Int) else 0) = (if mAsT G gap lev = 0 then (popB 12 (bestM G gap lev) : Int) else 0 : Int) := by rw [mAsT_c g.ce, g.ce.best]
  rcases u with u | u | u
  · exact Or.inl (St.ofV I R g9 gd la lb rfl rfl g q1 u et ev)
  · exact Or.inr (Or.inl (St.ofE I R g9 gd la lb rfl rfl g q1 u et))
  · exact Or.inr (Or.inr (St.ofE I R g9 gd la lb rfl rfl g q1 u et))
theorem St.x69 {gap lev ix : Int} (p : St L xs c n G H) (hg : iR gap) (hl : iR lev) (hx : iR ix) : sV L xs c n G 69 7 [.ref 3, .int (Int32.ofInt gap), .int (Int32.ofInt lev), .int (Int32.ofInt ix)] H (mFaT G gap lev ix) (.int (Int32.ofInt (mFaV G gap lev ix))) ∨ sE L xs c n G 69 7 [.ref 3, .int (Int32.ofInt gap), .int (Int32.ofInt lev), .int (Int32.ofInt ix)] H (mFaT G gap lev ix) 1 0 ∨ sE L xs c n G 69 7 [.ref 3, .int (Int32.ofInt gap), .int (Int32.ofInt lev), .int (Int32.ofInt ix)] H (mFaT G gap lev ix) 2 4 := by
  obtain ⟨I, h, X, D, a, b, R, q, g, g9, gd, la, lb⟩ := p
  obtain ⟨D1, q1, -, u⟩ := k69 q hg hl hx
  have gg := g.tr q1.2
  have ce := gg.ce
  have et : mFaT D gap lev ix = mFaT G gap lev ix := mFaT_c g.ce
  have ev : mFaV D gap lev ix = (mFaV G gap lev ix : Int) := mFaV_c g.ce
  rcases u with u | u | u
  · exact Or.inl (St.ofV I R g9 gd la lb rfl rfl g q1 u et ev)
  · exact Or.inr (Or.inl (St.ofE I R g9 gd la lb rfl rfl g q1 u et))
  · exact Or.inr (Or.inr (St.ofE I R g9 gd la lb rfl rfl g q1 u et))
end STC

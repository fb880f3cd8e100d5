/-! what the law sees of the class: the machine's heap stands for one that holds the reference's cells too -/
theorem SW.zc {k ml : Nat} {as : List Value} {h h1 H : zH} {r : zR} {a b L : Nat} {xs : Nat → Int32} (R : SW 38 a b h H) (hr : zrl k = true) (I : zINV L xs H) (hn : 32 ≤ zn H) (ha : ∀ v ∈ as, v = .ref 3 ∨ ∃ z, v = .int z) (e : zc k ml as h = some (r, h1)) : ∃ H1, zc k ml as H = some (rsg 38 r, H1) ∧ SW 38 a b h1 H1 ∧ zINV L xs H1 := by
  have em : as.map (vmap (sg 38)) = as := by
    refine (List.map_congr_left (fun v hv => ?_)).trans (List.map_id as)
    rcases ha v hv with rfl | ⟨z, rfl⟩ <;> rfl
  obtain ⟨H1, e1, R1, -⟩ := zx_sw k 0 (zentry ml as) [] h (r, h1) e H R (fun i v hv => by
    rcases ha v (List.mem_of_getElem? (zentry_get hv)) with rfl | ⟨z, rfl⟩
    · exact NGv_ref.mpr (Or.inl (by omega))
    · exact NGv_int.mpr trivial) (NGs_nil.mpr trivial)
  rw [← zentry_sg, em] at e1
  have e1 : zx k 0 (zentry ml as) [] H = some (rsg 38 r, H1) := e1
  have g := zx_inv zcode_ok k 0 (zentry ml as) [] H _ e1 hr I (zLOK_entry (m := zn H) (fun v hv a ea => by
    rcases ha v hv with rfl | ⟨z, rfl⟩
    · cases ea
      exact Nat.lt_of_lt_of_le (show 3 < 32 by decide) hn
    · cases ea)) (fun v hv => absurd hv List.not_mem_nil)
  exact ⟨H1, e1, R1, g.1⟩
/-- c calls that change, n that raise; the reference's cells are those of G -/
def St (L : Nat) (xs : Nat → Int32) (c n : Nat) (G : zD) (H : zH) : Prop := zINV L xs H ∧ ∃ (h : zH) (X D : zD) (a b : Nat), SW 38 a b (zV (zU h X) D) H ∧ Inv c h X D ∧ gs G D ∧ (∀ i, 0 ≤ G 39 i ∧ G 39 i ≤ 3600 * (c : Int)) ∧ G 32 16 ≤ c ∧ a ≤ n ∧ b ≤ 6 * n
theorem St.le {L : Nat} {xs : Nat → Int32} {c n m : Nat} {G : zD} {H : zH} (p : St L xs c n G H) (hm : n ≤ m) : St L xs c m G H := by
  obtain ⟨I, h, X, D, a, b, R, q, g, g9, gd, la, lb⟩ := p
  exact ⟨I, h, X, D, a, b, R, q, g, g9, gd, by omega, by omega⟩
theorem St.k3 {L : Nat} {xs : Nat → Int32} {c n : Nat} {G : zD} {H : zH} (p : St L xs c n G H) : zk H 3 = 5 := by
  obtain ⟨I, h, X, D, a, b, R, q, g, g9, gd, la, lb⟩ := p
  have := (R.2.2.2.2.2 3 (Or.inl (by omega))).1
  rw [sg_lo (by omega), (zV_in (by omega) 0).1] at this
  exact this
theorem St.n {L : Nat} {xs : Nat → Int32} {c n : Nat} {G : zD} {H : zH} (p : St L xs c n G H) : 32 ≤ zn H := by
  obtain ⟨I, h, X, D, a, b, R, q, g, g9, gd, la, lb⟩ := p
  have := R.2.1
  have := R.2.2.1
  omega
theorem St.room {L : Nat} {xs : Nat → Int32} {c n : Nat} {G : zD} {H : zH} (p : St L xs c n G H) : zuc H ≤ 1000 + 10 * c + n ∧ zus H ≤ 1000000 + 100 * c + 6 * n ∧ c ≤ 600 := by
  obtain ⟨I, h, X, D, a, b, R, q, g, g9, gd, la, lb⟩ := p
  obtain ⟨q1, q2⟩ := q.2.2.2.2.2.2.1
  have h1 : zuc H = zuc h + a := R.2.2.2.1
  have h2 : zus H = zus h + b := R.2.2.2.2.1
  exact ⟨by omega, by omega, q.2.2.2.2.2.2.2⟩
theorem airS_b {t : Int} {sp : zSp} (h : spC t sp) {i : Nat} : ∀ k, k ≤ sp.length → 0 ≤ airS sp i k ∧ airS sp i k ≤ lnS sp k
  | 0, _ => ⟨Int.le_refl _, Int.le_refl _⟩
  | k + 1, hk => by
    have b := spC_b h _ (spK_mem (sp := sp) (k := k) (by omega))
    have q := airS_b h (i := i) k (by omega)
    unfold airS
    rw [lnS]
    split <;> omega
/-- a call that answers, one that raises -/
def sV (L : Nat) (xs : Nat → Int32) (c n : Nat) (G : zD) (k ml : Nat) (as : List Value) (H : zH) (τ : Int) (v : Value) : Prop := τ = 0 ∧ ∃ H1, zc k ml as H = some (.inl (some v), H1) ∧ St L xs c (n + 1) G H1
def sE (L : Nat) (xs : Nat → Int32) (c n : Nat) (G : zD) (k ml : Nat) (as : List Value) (H : zH) (τ t : Int) (e : Nat) : Prop := τ = t ∧ ∃ H1, zc k ml as H = some (.inr e, H1) ∧ St L xs c (n + 1) G H1
/-- a call that changes -/
def sC (L : Nat) (xs : Nat → Int32) (c n : Nat) (k ml : Nat) (as : List Value) (H : zH) (τ : Int) (P : zD → Int → Prop) : Prop := τ = 0 ∧ ∃ (v : Int) (H1 : zH) (G1 : zD), zc k ml as H = some (.inl (some (.int (Int32.ofInt v))), H1) ∧ (-(12 * (c : Int)) ≤ v ∧ v ≤ 100000) ∧ St L xs (c + 1) (n + 1) G1 H1 ∧ P G1 v
def aok : Value → Bool
  | .ref a => Nat.beq a 3
  | .int _ => true
  | _ => false
theorem aok_s {as : List Value} (h : as.all aok = true) : ∀ v ∈ as, v = .ref 3 ∨ ∃ z, v = .int z := by
  intro v hv
  have := List.all_eq_true.mp h v hv
  cases v with
  | ref a => exact Or.inl (by rw [Nat.eq_of_beq_eq_true this])
  | int z => exact Or.inr ⟨z, rfl⟩
  | _ => cases this
section STS
variable {L : Nat} {xs : Nat → Int32} {c n k ml a b e : Nat} {as : List Value} {G X D X1 D1 : zD} {h h1 H : zH} {τ τ' t : Int}
theorem St.n' (R : SW 38 a b h H) : 32 ≤ zn H := by
  have := R.2.1
  have := R.2.2.1
  omega
theorem St.ofW {w w' : Value} (I : zINV L xs H) (R : SW 38 a b (zV (zU h X) D) H) (g9 : ∀ i, 0 ≤ G 39 i ∧ G 39 i ≤ 3600 * (c : Int)) (gd : G 32 16 ≤ c) (la : a ≤ n) (lb : b ≤ 6 * n) (hr : zrl k = true) (ha : as.all aok = true) (g : gs G D) (q : InvG c h D X1 D1) (hw : vmap (sg 38) w' = w') (u : τ = 0 ∧ zc k ml as (zV (zU h X) D) = some (.inl (some w), zV (zU h X1) D1)) (et : τ = τ') (ev : w = w') : sV L xs c n G k ml as H τ' w' := by
  subst et ev
  refine ⟨u.1, ?_⟩
  obtain ⟨H1, e1, R1, I1⟩ := R.zc hr I (St.n' R) (aok_s ha) u.2
  refine ⟨H1, ?_, I1, h, X1, D1, a, b, R1, q.1, g.tr q.2, g9, gd, by omega, by omega⟩
  rw [e1]
  show some (Sum.inl (some (vmap (sg 38) w)), H1) = _
  rw [hw]
theorem St.ofV {v v' : Int} (I : zINV L xs H) (R : SW 38 a b (zV (zU h X) D) H) (g9 : ∀ i, 0 ≤ G 39 i ∧ G 39 i ≤ 3600 * (c : Int)) (gd : G 32 16 ≤ c) (la : a ≤ n) (lb : b ≤ 6 * n) (hr : zrl k = true) (ha : as.all aok = true) (g : gs G D) (q : InvG c h D X1 D1) (u : cV (zc k ml as (zV (zU h X) D)) τ v h X1 D1) (et : τ = τ') (ev : v = v') : sV L xs c n G k ml as H τ' (.int (Int32.ofInt v')) :=
  St.ofW I R g9 gd la lb hr ha g q rfl u et (by rw [ev])
theorem St.ofE (I : zINV L xs H) (R : SW 38 a b (zV (zU h X) D) H) (g9 : ∀ i, 0 ≤ G 39 i ∧ G 39 i ≤ 3600 * (c : Int)) (gd : G 32 16 ≤ c) (la : a ≤ n) (lb : b ≤ 6 * n) (hr : zrl k = true) (ha : as.all aok = true) (g : gs G D) (q : InvG c h D X1 D1) (u : cE (zc k ml as (zV (zU h X) D)) τ t e h X1 D1) (et : τ = τ') : sE L xs c n G k ml as H τ' t e := by
  subst et
  refine ⟨u.1, ?_⟩
  obtain ⟨H1, e1, R1, I1⟩ := R.zc hr I (St.n' R) (aok_s ha) u.2
  refine ⟨H1, e1, I1, h, X1, D1, a + 1, b + 6, ?_, q.1, g.tr q.2, g9, gd, by omega, by omega⟩
  obtain ⟨r1, r2, r3, r4, r5, r6⟩ := R1
  exact ⟨r1, r2, r3, by rw [r4]; exact Nat.add_right_comm _ _ _, by rw [r5]; exact Nat.add_right_comm _ _ _, r6⟩
theorem SW.D9 {D9 : zD} (R : SW 38 a b (zV (zU h X) D) H) (q : ∀ a i, a < 32 → D9 a i = D a i) : SW 38 a b (zV (zU h X) D9) H := by
  obtain ⟨r1, r2, r3, r4, r5, r6⟩ := R
  have em : ∀ x i, gdm x → zm (zV (zU h X) D9) x i = zm (zV (zU h X) D) x i := by
    intro x i hx
    unfold gdm at hx
    by_cases w : (x = 3 ∨ 6 ≤ x) ∧ x < 70
    · rw [(zV_in w i).2.2, (zV_in w i).2.2, q x i (by omega)]
    · rw [zV_m (by omega), zV_m (by omega)]
  refine ⟨r1, r2, r3, r4, r5, fun x hx => ?_⟩
  obtain ⟨s1, s2, s3, s4⟩ := r6 x hx
  exact ⟨s1, s2, fun i => by rw [em x i hx]; exact s3 i, fun i => by rw [em x i hx]; exact s4 i⟩
theorem St.ofC {P : zD → Int → Prop} {D9 : zD} {v : Int} (I : zINV L xs H) (R : SW 38 a b (zV (zU h X) D) H) (la : a ≤ n) (lb : b ≤ 6 * n) (hr : zrl k = true) (ha : as.all aok = true) (et : τ = 0) (e : zc k ml as (zV (zU h X) D) = some (.inl (some (.int (Int32.ofInt v))), zV (zU h1 X1) D1)) (hv : -(12 * (c : Int)) ≤ v ∧ v ≤ 100000) (q9 : ∀ a i, a < 32 → D9 a i = D1 a i) (q : Inv (c + 1) h1 X1 D9) (h9 : ∀ i, 0 ≤ D9 39 i ∧ D9 39 i ≤ 3600 * ((c : Int) + 1)) (hd : D9 32 16 ≤ (c : Int) + 1) (hP : P D9 v) : sC L xs c n k ml as H τ P := by
  refine ⟨et, ?_⟩
  obtain ⟨H1, e1, R1, I1⟩ := R.zc hr I (St.n' R) (aok_s ha) e
  exact ⟨v, H1, D9, e1, hv, ⟨I1, h1, X1, D9, a, b, R1.D9 q9, q, gs.rf, fun i => by have := h9 i; omega, by omega, by omega, by omega⟩, hP⟩
end STS

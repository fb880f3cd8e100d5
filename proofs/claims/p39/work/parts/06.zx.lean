/-- whether a method has handlers -/
def zhas (k : Nat) : Bool := zHs.any (fun x => Nat.beq x.1 k)
/-- what a method does from a place: its end's value, or the exception that leaves it -/
noncomputable def zx (k pc : Nat) (ls : zL) (st : zS) (h : zH) : Option (zR × zH) :=
  match codeT k pc with
  | none => none
  | some (0, i, nx, tg, aux) => match zpure i nx tg aux ls st h with
    | none => none
    | some r => zx k r.1 r.2.1 r.2.2.1 r.2.2.2
  | some (1, _, _, _, aux) => zret (aux.getD 0 9) st h
  | some (2, _, nx, _, aux) => match ztake (aux.getD 1 0) st with
    | none => none
    | some ar =>
      if zrcv (aux.getD 3 0) ar.1 h = true then (do
        let q ← zx (aux.getD 0 0) 0 (zentry (aux.getD 2 0) ar.1) [] h
        match q.1 with
        | .inl none => zx k nx ls ar.2 q.2
        | .inl (some v) => zx k nx ls (v :: ar.2) q.2
        | .inr e => match zhT k e pc with
          | none => if zhas k = true then none else some (.inr e, q.2)
          | some t => zx k t.2 (lclr ls t.1) [] q.2)
      else none
  | some (3, _, _, _, aux) => if st.length ≤ 4 ∧ zhas k = false then some (.inr (aux.getD 0 9), zchg h 1 6) else none
  | some _ => none
partial_fixpoint
/-- what a return, a call's end, gives its caller -/
noncomputable def zback (k pc nx : Nat) (ls : zL) (st : zS) (q : zR × zH) : Option (zR × zH) := match q.1 with
  | .inl none => zx k nx ls st q.2
  | .inl (some v) => zx k nx ls (v :: st) q.2
  | .inr e => match zhT k e pc with
    | none => if zhas k = true then none else some (.inr e, q.2)
    | some t => zx k t.2 (lclr ls t.1) [] q.2
/-- a step that stays in the method -/
noncomputable def zgo (k : Nat) (r : Option (Nat × zL × zS × zH)) : Option (zR × zH) := match r with
  | none => none
  | some r => zx k r.1 r.2.1 r.2.2.1 r.2.2.2
/-- a method from its entry -/
noncomputable def zc (k n : Nat) (as : List Value) (h : zH) : Option (zR × zH) := zx k 0 (zentry n as) [] h
theorem zx_0 {k pc : Nat} {i : Instr} {nx tg : Nat} {aux : List Nat} (hc : codeT k pc = some (0, i, nx, tg, aux)) (ls : zL) (st : zS) (h : zH) : zx k pc ls st h = zgo k (zpure i nx tg aux ls st h) := by
  rw [zx, hc]
  rfl
theorem zx_1 {k pc : Nat} {i : Instr} {nx tg t : Nat} (hc : codeT k pc = some (1, i, nx, tg, [t])) (ls : zL) (st : zS) (h : zH) : zx k pc ls st h = zret t st h := by
  rw [zx, hc]
  rfl
theorem zx_2 {k pc : Nat} {i : Instr} {nx tg j n ml rk : Nat} (hc : codeT k pc = some (2, i, nx, tg, [j, n, ml, rk])) (ls : zL) (st : zS) (h : zH) : zx k pc ls st h = (match ztake n st with
    | none => none
    | some ar => if zrcv rk ar.1 h = true then (zc j ml ar.1 h).bind (zback k pc nx ls ar.2) else none) := by
  rw [zx, hc]
  rfl
theorem zx_3 {k pc : Nat} {i : Instr} {nx tg e : Nat} {aux : List Nat} (hc : codeT k pc = some (3, i, nx, tg, e :: aux)) (ls : zL) (st : zS) (h : zH) : zx k pc ls st h = if st.length ≤ 4 ∧ zhas k = false then some (.inr e, zchg h 1 6) else none := by
  rw [zx, hc]
  rfl

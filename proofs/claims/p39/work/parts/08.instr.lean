/-! each instruction of each method, as a step (a program has written them): zK all but the heads of loops, zK_pc a head -/
/-- a call: the callee's end, then on -/
noncomputable def zca (k pc nx : Nat) (ls : zL) (j ml rk : Nat) (o : Option (List Value × zS)) (h : zH) : Option (zR × zH) := match o with
  | none => none
  | some ar => if zrcv rk ar.1 h = true then (zc j ml ar.1 h).bind (zback k pc nx ls ar.2) else none
theorem zx_2c {k pc : Nat} {i : Instr} {nx tg j n ml rk : Nat} (hc : codeT k pc = some (2, i, nx, tg, [j, n, ml, rk])) (ls : zL) (st : zS) (h : zH) : zx k pc ls st h = zca k pc nx ls j ml rk (ztake n st) h := zx_2 hc ls st h
theorem zx_3c {k pc : Nat} {i : Instr} {nx tg e : Nat} {aux : List Nat} (hc : codeT k pc = some (3, i, nx, tg, e :: aux)) (hh : zhas k = false) (ls : zL) (st : zS) (h : zH) : zx k pc ls st h = if st.length ≤ 4 then some (.inr e, zchg h 1 6) else none := by
  rw [zx_3 hc]
  simp only [hh, and_true]

/-- X0_init -/
theorem z0 :
  (∀ (ls : zL) (st : zS) (h : zH), zx 0 0 ls st h = zgo 0 (zpure (.aload_n 0) 1 0 [] ls st h)) ∧
  (∀ (ls : zL) (st : zS) (h : zH), zx 0 1 ls st h = zgo 0 (zpure (.invokespecial 1) 4 0 [] ls st h)) ∧
  (∀ (ls : zL) (st : zS) (h : zH), zx 0 4 ls st h = zgo 0 (zpure (.aload_n 0) 5 0 [] ls st h)) ∧
  (∀ (ls : zL) (st : zS) (h : zH), zx 0 5 ls st h = zgo 0 (zpure (.iload_n 1) 6 0 [] ls st h)) ∧
  (∀ (ls : zL) (st : zS) (h : zH), zx 0 6 ls st h = zgo 0 (zpure (.putfield 7) 9 0 [0, 0, 0] ls st h)) ∧
  (∀ (ls : zL) (st : zS) (h : zH), zx 0 9 ls st h = zgo 0 (zpure (.aload_n 0) 10 0 [] ls st h)) ∧
  (∀ (ls : zL) (st : zS) (h : zH), zx 0 10 ls st h = zgo 0 (zpure (.iload_n 2) 11 0 [] ls st h)) ∧
  (∀ (ls : zL) (st : zS) (h : zH), zx 0 11 ls st h = zgo 0 (zpure (.putfield 13) 14 0 [0, 1, 1] ls st h)) ∧
  (∀ (ls : zL) (st : zS) (h : zH), zx 0 14 ls st h = zgo 0 (zpure (.aload_n 0) 15 0 [] ls st h)) ∧
  (∀ (ls : zL) (st : zS) (h : zH), zx 0 15 ls st h = zgo 0 (zpure (.iload_n 3) 16 0 [] ls st h)) ∧
  (∀ (ls : zL) (st : zS) (h : zH), zx 0 16 ls st h = zgo 0 (zpure (.putfield 17) 19 0 [0, 2, 0] ls st h)) ∧
  (∀ (ls : zL) (st : zS) (h : zH), zx 0 19 ls st h = zgo 0 (zpure (.aload_n 0) 20 0 [] ls st h)) ∧
  (∀ (ls : zL) (st : zS) (h : zH), zx 0 20 ls st h = zgo 0 (zpure (.iload 4) 22 0 [] ls st h)) ∧
  (∀ (ls : zL) (st : zS) (h : zH), zx 0 22 ls st h = zgo 0 (zpure (.putfield 20) 25 0 [0, 3, 0] ls st h)) ∧
  (∀ (ls : zL) (st : zS) (h : zH), zx 0 25 ls st h = zgo 0 (zpure (.aload_n 0) 26 0 [] ls st h)) ∧
  (∀ (ls : zL) (st : zS) (h : zH), zx 0 26 ls st h = zgo 0 (zpure (.iload 5) 28 0 [] ls st h)) ∧
  (∀ (ls : zL) (st : zS) (h : zH), zx 0 28 ls st h = zgo 0 (zpure (.putfield 23) 31 0 [0, 6, 0] ls st h)) ∧
  (∀ (ls : zL) (st : zS) (h : zH), zx 0 31 ls st h = zgo 0 (zpure (.aload_n 0) 32 0 [] ls st h)) ∧
  (∀ (ls : zL) (st : zS) (h : zH), zx 0 32 ls st h = zgo 0 (zpure (.iload 6) 34 0 [] ls st h)) ∧
  (∀ (ls : zL) (st : zS) (h : zH), zx 0 34 ls st h = zgo 0 (zpure (.putfield 26) 37 0 [0, 4, 0] ls st h)) ∧
  (∀ (ls : zL) (st : zS) (h : zH), zx 0 37 ls st h = zgo 0 (zpure (.aload_n 0) 38 0 [] ls st h)) ∧
  (∀ (ls : zL) (st : zS) (h : zH), zx 0 38 ls st h = zgo 0 (zpure (.iload 7) 40 0 [] ls st h)) ∧
  (∀ (ls : zL) (st : zS) (h : zH), zx 0 40 ls st h = zgo 0 (zpure (.putfield 29) 43 0 [0, 5, 0] ls st h)) ∧
  (∀ (ls : zL) (st : zS) (h : zH), zx 0 43 ls st h = zgo 0 (zpure (.aload_n 0) 44 0 [] ls st h)) ∧
  (∀ (ls : zL) (st : zS) (h : zH), zx 0 44 ls st h = zgo 0 (zpure (.lconst 0) 45 0 [] ls st h)) ∧
  (∀ (ls : zL) (st : zS) (h : zH), zx 0 45 ls st h = zgo 0 (zpure (.putfield 32) 48 0 [0, 7, 4] ls st h)) ∧
  (∀ (ls : zL) (st : zS) (h : zH), zx 0 48 ls st h = zret 8 st h) :=
  ⟨zx_0 rfl, zx_0 rfl, zx_0 rfl, zx_0 rfl, zx_0 rfl, zx_0 rfl, zx_0 rfl, zx_0 rfl, zx_0 rfl, zx_0 rfl, zx_0 rfl, zx_0 rfl, zx_0 rfl, zx_0 rfl, zx_0 rfl, zx_0 rfl, zx_0 rfl, zx_0 rfl, zx_0 rfl, zx_0 rfl, zx_0 rfl, zx_0 rfl, zx_0 rfl, zx_0 rfl, zx_0 rfl, zx_0 rfl, zx_1 rfl⟩
/-- X0_hasDay -/
theorem z1 :
  (∀ (ls : zL) (st : zS) (h : zH), zx 1 0 ls st h = zgo 1 (zpure (.aload_n 0) 1 0 [] ls st h)) ∧
  (∀ (ls : zL) (st : zS) (h : zH), zx 1 1 ls st h = zgo 1 (zpure (.getfield 26) 4 0 [0, 4] ls st h)) ∧
  (∀ (ls : zL) (st : zS) (h : zH), zx 1 4 ls st h = zgo 1 (zpure (.iload_n 1) 5 0 [] ls st h)) ∧
  (∀ (ls : zL) (st : zS) (h : zH), zx 1 5 ls st h = zgo 1 (zpure (.if_icmp .gt 15) 8 20 [] ls st h)) ∧
  (∀ (ls : zL) (st : zS) (h : zH), zx 1 8 ls st h = zgo 1 (zpure (.iload_n 1) 9 0 [] ls st h)) ∧
  (∀ (ls : zL) (st : zS) (h : zH), zx 1 9 ls st h = zgo 1 (zpure (.aload_n 0) 10 0 [] ls st h)) ∧
  (∀ (ls : zL) (st : zS) (h : zH), zx 1 10 ls st h = zgo 1 (zpure (.getfield 29) 13 0 [0, 5] ls st h)) ∧
  (∀ (ls : zL) (st : zS) (h : zH), zx 1 13 ls st h = zgo 1 (zpure (.if_icmp .gt 7) 16 20 [] ls st h)) ∧
  (∀ (ls : zL) (st : zS) (h : zH), zx 1 16 ls st h = zgo 1 (zpure (.iconst 1) 17 0 [] ls st h)) ∧
  (∀ (ls : zL) (st : zS) (h : zH), zx 1 17 ls st h = zgo 1 (zpure (.goto 4) 20 21 [] ls st h)) ∧
  (∀ (ls : zL) (st : zS) (h : zH), zx 1 20 ls st h = zgo 1 (zpure (.iconst 0) 21 0 [] ls st h)) ∧
  (∀ (ls : zL) (st : zS) (h : zH), zx 1 21 ls st h = zret 1 st h) :=
  ⟨zx_0 rfl, zx_0 rfl, zx_0 rfl, zx_0 rfl, zx_0 rfl, zx_0 rfl, zx_0 rfl, zx_0 rfl, zx_0 rfl, zx_0 rfl, zx_0 rfl, zx_1 rfl⟩
/-- X1_init -/
theorem z2 :
  (∀ (ls : zL) (st : zS) (h : zH), zx 2 0 ls st h = zgo 2 (zpure (.aload_n 0) 1 0 [] ls st h)) ∧
  (∀ (ls : zL) (st : zS) (h : zH), zx 2 1 ls st h = zgo 2 (zpure (.invokespecial 3) 4 0 [] ls st h)) ∧
  (∀ (ls : zL) (st : zS) (h : zH), zx 2 4 ls st h = zgo 2 (zpure (.aload_n 0) 5 0 [] ls st h)) ∧
  (∀ (ls : zL) (st : zS) (h : zH), zx 2 5 ls st h = zgo 2 (zpure (.aload_n 1) 6 0 [] ls st h)) ∧
  (∀ (ls : zL) (st : zS) (h : zH), zx 2 6 ls st h = zgo 2 (zpure (.putfield 9) 9 0 [1, 0, 7] ls st h)) ∧
  (∀ (ls : zL) (st : zS) (h : zH), zx 2 9 ls st h = zgo 2 (zpure (.aload_n 0) 10 0 [] ls st h)) ∧
  (∀ (ls : zL) (st : zS) (h : zH), zx 2 10 ls st h = zgo 2 (zpure (.iload_n 2) 11 0 [] ls st h)) ∧
  (∀ (ls : zL) (st : zS) (h : zH), zx 2 11 ls st h = zgo 2 (zpure (.putfield 15) 14 0 [1, 1, 3] ls st h)) ∧
  (∀ (ls : zL) (st : zS) (h : zH), zx 2 14 ls st h = zgo 2 (zpure (.aload_n 0) 15 0 [] ls st h)) ∧
  (∀ (ls : zL) (st : zS) (h : zH), zx 2 15 ls st h = zgo 2 (zpure (.iload_n 3) 16 0 [] ls st h)) ∧
  (∀ (ls : zL) (st : zS) (h : zH), zx 2 16 ls st h = zgo 2 (zpure (.putfield 19) 19 0 [1, 2, 0] ls st h)) ∧
  (∀ (ls : zL) (st : zS) (h : zH), zx 2 19 ls st h = zgo 2 (zpure (.aload_n 0) 20 0 [] ls st h)) ∧
  (∀ (ls : zL) (st : zS) (h : zH), zx 2 20 ls st h = zgo 2 (zpure (.new 23) 23 0 [7, 3] ls st h)) ∧
  (∀ (ls : zL) (st : zS) (h : zH), zx 2 23 ls st h = zgo 2 (zpure .dup 24 0 [] ls st h)) ∧
  (∀ (ls : zL) (st : zS) (h : zH), zx 2 24 ls st h = zca 2 24 27 ls 164 1 100 (ztake 1 st) h) ∧
  (∀ (ls : zL) (st : zS) (h : zH), zx 2 27 ls st h = zgo 2 (zpure (.putfield 26) 30 0 [1, 3, 7] ls st h)) ∧
  (∀ (ls : zL) (st : zS) (h : zH), zx 2 30 ls st h = zgo 2 (zpure (.aload_n 0) 31 0 [] ls st h)) ∧
  (∀ (ls : zL) (st : zS) (h : zH), zx 2 31 ls st h = zgo 2 (zpure (.iconst 0) 32 0 [] ls st h)) ∧
  (∀ (ls : zL) (st : zS) (h : zH), zx 2 32 ls st h = zgo 2 (zpure (.putfield 30) 35 0 [1, 4, 0] ls st h)) ∧
  (∀ (ls : zL) (st : zS) (h : zH), zx 2 35 ls st h = zgo 2 (zpure (.aload_n 0) 36 0 [] ls st h)) ∧
  (∀ (ls : zL) (st : zS) (h : zH), zx 2 36 ls st h = zgo 2 (zpure (.iconst 0) 37 0 [] ls st h)) ∧
  (∀ (ls : zL) (st : zS) (h : zH), zx 2 37 ls st h = zgo 2 (zpure (.putfield 33) 40 0 [1, 5, 1] ls st h)) ∧
  (∀ (ls : zL) (st : zS) (h : zH), zx 2 40 ls st h = zgo 2 (zpure (.aload_n 0) 41 0 [] ls st h)) ∧
  (∀ (ls : zL) (st : zS) (h : zH), zx 2 41 ls st h = zgo 2 (zpure (.iconst 0) 42 0 [] ls st h)) ∧
  (∀ (ls : zL) (st : zS) (h : zH), zx 2 42 ls st h = zgo 2 (zpure (.putfield 37) 45 0 [1, 6, 1] ls st h)) ∧
  (∀ (ls : zL) (st : zS) (h : zH), zx 2 45 ls st h = zgo 2 (zpure (.aload_n 0) 46 0 [] ls st h)) ∧
  (∀ (ls : zL) (st : zS) (h : zH), zx 2 46 ls st h = zgo 2 (zpure (.iconst 0) 47 0 [] ls st h)) ∧
  (∀ (ls : zL) (st : zS) (h : zH), zx 2 47 ls st h = zgo 2 (zpure (.putfield 40) 50 0 [1, 7, 0] ls st h)) ∧
  (∀ (ls : zL) (st : zS) (h : zH), zx 2 50 ls st h = zgo 2 (zpure (.aload_n 0) 51 0 [] ls st h)) ∧
  (∀ (ls : zL) (st : zS) (h : zH), zx 2 51 ls st h = zgo 2 (zpure (.iconst 0) 52 0 [] ls st h)) ∧
  (∀ (ls : zL) (st : zS) (h : zH), zx 2 52 ls st h = zgo 2 (zpure (.putfield 43) 55 0 [1, 8, 0] ls st h)) ∧
  (∀ (ls : zL) (st : zS) (h : zH), zx 2 55 ls st h = zgo 2 (zpure (.aload_n 0) 56 0 [] ls st h)) ∧
  (∀ (ls : zL) (st : zS) (h : zH), zx 2 56 ls st h = zgo 2 (zpure (.iconst 0) 57 0 [] ls st h)) ∧
  (∀ (ls : zL) (st : zS) (h : zH), zx 2 57 ls st h = zgo 2 (zpure (.putfield 46) 60 0 [1, 9, 0] ls st h)) ∧
  (∀ (ls : zL) (st : zS) (h : zH), zx 2 60 ls st h = zret 8 st h) :=
  ⟨zx_0 rfl, zx_0 rfl, zx_0 rfl, zx_0 rfl, zx_0 rfl, zx_0 rfl, zx_0 rfl, zx_0 rfl, zx_0 rfl, zx_0 rfl, zx_0 rfl, zx_0 rfl, zx_0 rfl, zx_0 rfl, zx_2c rfl, zx_0 rfl, zx_0 rfl, zx_0 rfl, zx_0 rfl, zx_0 rfl, zx_0 rfl, zx_0 rfl, zx_0 rfl, zx_0 rfl, zx_0 rfl, zx_0 rfl, zx_0 rfl, zx_0 rfl, zx_0 rfl, zx_0 rfl, zx_0 rfl, zx_0 rfl, zx_0 rfl, zx_0 rfl, zx_1 rfl⟩
/-- X1_takeOffAir -/
theorem z3 :
  (∀ (ls : zL) (st : zS) (h : zH), zx 3 0 ls st h = zgo 3 (zpure (.aload_n 0) 1 0 [] ls st h)) ∧
  (∀ (ls : zL) (st : zS) (h : zH), zx 3 1 ls st h = zgo 3 (zpure (.iconst 0) 2 0 [] ls st h)) ∧
  (∀ (ls : zL) (st : zS) (h : zH), zx 3 2 ls st h = zgo 3 (zpure (.putfield 40) 5 0 [1, 7, 0] ls st h)) ∧
  (∀ (ls : zL) (st : zS) (h : zH), zx 3 5 ls st h = zgo 3 (zpure (.aload_n 0) 6 0 [] ls st h)) ∧
  (∀ (ls : zL) (st : zS) (h : zH), zx 3 6 ls st h = zgo 3 (zpure (.iconst 0) 7 0 [] ls st h)) ∧
  (∀ (ls : zL) (st : zS) (h : zH), zx 3 7 ls st h = zgo 3 (zpure (.putfield 43) 10 0 [1, 8, 0] ls st h)) ∧
  (∀ (ls : zL) (st : zS) (h : zH), zx 3 10 ls st h = zgo 3 (zpure (.aload_n 0) 11 0 [] ls st h)) ∧
  (∀ (ls : zL) (st : zS) (h : zH), zx 3 11 ls st h = zgo 3 (zpure (.iconst 0) 12 0 [] ls st h)) ∧
  (∀ (ls : zL) (st : zS) (h : zH), zx 3 12 ls st h = zgo 3 (zpure (.putfield 46) 15 0 [1, 9, 0] ls st h)) ∧
  (∀ (ls : zL) (st : zS) (h : zH), zx 3 15 ls st h = zgo 3 (zpure (.aload_n 0) 16 0 [] ls st h)) ∧
  (∀ (ls : zL) (st : zS) (h : zH), zx 3 16 ls st h = zgo 3 (zpure (.iconst 0) 17 0 [] ls st h)) ∧
  (∀ (ls : zL) (st : zS) (h : zH), zx 3 17 ls st h = zgo 3 (zpure (.putfield 37) 20 0 [1, 6, 1] ls st h)) ∧
  (∀ (ls : zL) (st : zS) (h : zH), zx 3 20 ls st h = zret 8 st h) :=
  ⟨zx_0 rfl, zx_0 rfl, zx_0 rfl, zx_0 rfl, zx_0 rfl, zx_0 rfl, zx_0 rfl, zx_0 rfl, zx_0 rfl, zx_0 rfl, zx_0 rfl, zx_0 rfl, zx_1 rfl⟩
/-- X1_putOnAir -/
theorem z4 :
  (∀ (ls : zL) (st : zS) (h : zH), zx 4 0 ls st h = zgo 4 (zpure (.aload_n 0) 1 0 [] ls st h)) ∧
  (∀ (ls : zL) (st : zS) (h : zH), zx 4 1 ls st h = zgo 4 (zpure (.iload_n 1) 2 0 [] ls st h)) ∧
  (∀ (ls : zL) (st : zS) (h : zH), zx 4 2 ls st h = zgo 4 (zpure (.putfield 40) 5 0 [1, 7, 0] ls st h)) ∧
  (∀ (ls : zL) (st : zS) (h : zH), zx 4 5 ls st h = zgo 4 (zpure (.aload_n 0) 6 0 [] ls st h)) ∧
  (∀ (ls : zL) (st : zS) (h : zH), zx 4 6 ls st h = zgo 4 (zpure (.iload_n 2) 7 0 [] ls st h)) ∧
  (∀ (ls : zL) (st : zS) (h : zH), zx 4 7 ls st h = zgo 4 (zpure (.putfield 43) 10 0 [1, 8, 0] ls st h)) ∧
  (∀ (ls : zL) (st : zS) (h : zH), zx 4 10 ls st h = zgo 4 (zpure (.aload_n 0) 11 0 [] ls st h)) ∧
  (∀ (ls : zL) (st : zS) (h : zH), zx 4 11 ls st h = zgo 4 (zpure (.iload_n 2) 12 0 [] ls st h)) ∧
  (∀ (ls : zL) (st : zS) (h : zH), zx 4 12 ls st h = zgo 4 (zpure (.putfield 46) 15 0 [1, 9, 0] ls st h)) ∧
  (∀ (ls : zL) (st : zS) (h : zH), zx 4 15 ls st h = zgo 4 (zpure (.aload_n 0) 16 0 [] ls st h)) ∧
  (∀ (ls : zL) (st : zS) (h : zH), zx 4 16 ls st h = zgo 4 (zpure (.aload_n 0) 17 0 [] ls st h)) ∧
  (∀ (ls : zL) (st : zS) (h : zH), zx 4 17 ls st h = zgo 4 (zpure (.getfield 15) 20 0 [1, 1] ls st h)) ∧
  (∀ (ls : zL) (st : zS) (h : zH), zx 4 20 ls st h = zgo 4 (zpure (.bipush 106) 22 0 [] ls st h)) ∧
  (∀ (ls : zL) (st : zS) (h : zH), zx 4 22 ls st h = zgo 4 (zpure (.if_icmp .ne 15) 25 37 [] ls st h)) ∧
  (∀ (ls : zL) (st : zS) (h : zH), zx 4 25 ls st h = zgo 4 (zpure (.aload_n 0) 26 0 [] ls st h)) ∧
  (∀ (ls : zL) (st : zS) (h : zH), zx 4 26 ls st h = zgo 4 (zpure (.getfield 19) 29 0 [1, 2] ls st h)) ∧
  (∀ (ls : zL) (st : zS) (h : zH), zx 4 29 ls st h = zgo 4 (zpure (.iload_n 1) 30 0 [] ls st h)) ∧
  (∀ (ls : zL) (st : zS) (h : zH), zx 4 30 ls st h = zgo 4 (zpure (.if_icmp .ge 7) 33 37 [] ls st h)) ∧
  (∀ (ls : zL) (st : zS) (h : zH), zx 4 33 ls st h = zgo 4 (zpure (.iconst 1) 34 0 [] ls st h)) ∧
  (∀ (ls : zL) (st : zS) (h : zH), zx 4 34 ls st h = zgo 4 (zpure (.goto 4) 37 38 [] ls st h)) ∧
  (∀ (ls : zL) (st : zS) (h : zH), zx 4 37 ls st h = zgo 4 (zpure (.iconst 0) 38 0 [] ls st h)) ∧
  (∀ (ls : zL) (st : zS) (h : zH), zx 4 38 ls st h = zgo 4 (zpure (.putfield 37) 41 0 [1, 6, 1] ls st h)) ∧
  (∀ (ls : zL) (st : zS) (h : zH), zx 4 41 ls st h = zret 8 st h) :=
  ⟨zx_0 rfl, zx_0 rfl, zx_0 rfl, zx_0 rfl, zx_0 rfl, zx_0 rfl, zx_0 rfl, zx_0 rfl, zx_0 rfl, zx_0 rfl, zx_0 rfl, zx_0 rfl, zx_0 rfl, zx_0 rfl, zx_0 rfl, zx_0 rfl, zx_0 rfl, zx_0 rfl, zx_0 rfl, zx_0 rfl, zx_0 rfl, zx_0 rfl, zx_1 rfl⟩
/-- X1_cutAt -/
theorem z5 :
  (∀ (ls : zL) (st : zS) (h : zH), zx 5 0 ls st h = zgo 5 (zpure (.aload_n 0) 1 0 [] ls st h)) ∧
  (∀ (ls : zL) (st : zS) (h : zH), zx 5 1 ls st h = zgo 5 (zpure (.aload_n 0) 2 0 [] ls st h)) ∧
  (∀ (ls : zL) (st : zS) (h : zH), zx 5 2 ls st h = zgo 5 (zpure (.getfield 43) 5 0 [1, 8] ls st h)) ∧
  (∀ (ls : zL) (st : zS) (h : zH), zx 5 5 ls st h = zgo 5 (zpure (.iload_n 1) 6 0 [] ls st h)) ∧
  (∀ (ls : zL) (st : zS) (h : zH), zx 5 6 ls st h = zgo 5 (zpure (.invokestatic 49) 9 0 [2] ls st h)) ∧
  (∀ (ls : zL) (st : zS) (h : zH), zx 5 9 ls st h = zgo 5 (zpure (.putfield 43) 12 0 [1, 8, 0] ls st h)) ∧
  (∀ (ls : zL) (st : zS) (h : zH), zx 5 12 ls st h = zret 8 st h) :=
  ⟨zx_0 rfl, zx_0 rfl, zx_0 rfl, zx_0 rfl, zx_0 rfl, zx_0 rfl, zx_1 rfl⟩
/-- X1_isOnAir -/
theorem z6 :
  (∀ (ls : zL) (st : zS) (h : zH), zx 6 0 ls st h = zgo 6 (zpure (.aload_n 0) 1 0 [] ls st h)) ∧
  (∀ (ls : zL) (st : zS) (h : zH), zx 6 1 ls st h = zgo 6 (zpure (.getfield 40) 4 0 [1, 7] ls st h)) ∧
  (∀ (ls : zL) (st : zS) (h : zH), zx 6 4 ls st h = zgo 6 (zpure (.aload_n 0) 5 0 [] ls st h)) ∧
  (∀ (ls : zL) (st : zS) (h : zH), zx 6 5 ls st h = zgo 6 (zpure (.getfield 43) 8 0 [1, 8] ls st h)) ∧
  (∀ (ls : zL) (st : zS) (h : zH), zx 6 8 ls st h = zgo 6 (zpure (.if_icmp .ge 7) 11 15 [] ls st h)) ∧
  (∀ (ls : zL) (st : zS) (h : zH), zx 6 11 ls st h = zgo 6 (zpure (.iconst 1) 12 0 [] ls st h)) ∧
  (∀ (ls : zL) (st : zS) (h : zH), zx 6 12 ls st h = zgo 6 (zpure (.goto 4) 15 16 [] ls st h)) ∧
  (∀ (ls : zL) (st : zS) (h : zH), zx 6 15 ls st h = zgo 6 (zpure (.iconst 0) 16 0 [] ls st h)) ∧
  (∀ (ls : zL) (st : zS) (h : zH), zx 6 16 ls st h = zret 1 st h) :=
  ⟨zx_0 rfl, zx_0 rfl, zx_0 rfl, zx_0 rfl, zx_0 rfl, zx_0 rfl, zx_0 rfl, zx_0 rfl, zx_1 rfl⟩
theorem z7_4 : ∀ (ls : zL) (st : zS) (h : zH), zx 7 4 ls st h = zgo 7 (zpure (.iload_n 3) 5 0 [] ls st h) := zx_0 rfl
/-- X1_secondariesAt -/
theorem z7 :
  (∀ (ls : zL) (st : zS) (h : zH), zx 7 0 ls st h = zgo 7 (zpure (.iconst 0) 1 0 [] ls st h)) ∧
  (∀ (ls : zL) (st : zS) (h : zH), zx 7 1 ls st h = zgo 7 (zpure (.istore_n 2) 2 0 [] ls st h)) ∧
  (∀ (ls : zL) (st : zS) (h : zH), zx 7 2 ls st h = zgo 7 (zpure (.iconst 0) 3 0 [] ls st h)) ∧
  (∀ (ls : zL) (st : zS) (h : zH), zx 7 3 ls st h = zgo 7 (zpure (.istore_n 3) 4 0 [] ls st h)) ∧
  (∀ (ls : zL) (st : zS) (h : zH), zx 7 5 ls st h = zgo 7 (zpure (.aload_n 0) 6 0 [] ls st h)) ∧
  (∀ (ls : zL) (st : zS) (h : zH), zx 7 6 ls st h = zgo 7 (zpure (.getfield 26) 9 0 [1, 3] ls st h)) ∧
  (∀ (ls : zL) (st : zS) (h : zH), zx 7 9 ls st h = zca 7 9 12 ls 175 1 8 (ztake 1 st) h) ∧
  (∀ (ls : zL) (st : zS) (h : zH), zx 7 12 ls st h = zgo 7 (zpure (.if_icmp .ge 59) 15 71 [] ls st h)) ∧
  (∀ (ls : zL) (st : zS) (h : zH), zx 7 15 ls st h = zgo 7 (zpure (.aload_n 0) 16 0 [] ls st h)) ∧
  (∀ (ls : zL) (st : zS) (h : zH), zx 7 16 ls st h = zgo 7 (zpure (.getfield 26) 19 0 [1, 3] ls st h)) ∧
  (∀ (ls : zL) (st : zS) (h : zH), zx 7 19 ls st h = zgo 7 (zpure (.iload_n 3) 20 0 [] ls st h)) ∧
  (∀ (ls : zL) (st : zS) (h : zH), zx 7 20 ls st h = zca 7 20 23 ls 171 2 8 (ztake 2 st) h) ∧
  (∀ (ls : zL) (st : zS) (h : zH), zx 7 23 ls st h = zgo 7 (zpure (.checkcast 63) 26 0 [3] ls st h)) ∧
  (∀ (ls : zL) (st : zS) (h : zH), zx 7 26 ls st h = zgo 7 (zpure (.astore 4) 28 0 [] ls st h)) ∧
  (∀ (ls : zL) (st : zS) (h : zH), zx 7 28 ls st h = zgo 7 (zpure (.aload 4) 30 0 [] ls st h)) ∧
  (∀ (ls : zL) (st : zS) (h : zH), zx 7 30 ls st h = zgo 7 (zpure (.aload_n 0) 31 0 [] ls st h)) ∧
  (∀ (ls : zL) (st : zS) (h : zH), zx 7 31 ls st h = zgo 7 (zpure (.getfield 40) 34 0 [1, 7] ls st h)) ∧
  (∀ (ls : zL) (st : zS) (h : zH), zx 7 34 ls st h = zgo 7 (zpure (.aload_n 0) 35 0 [] ls st h)) ∧
  (∀ (ls : zL) (st : zS) (h : zH), zx 7 35 ls st h = zgo 7 (zpure (.getfield 43) 38 0 [1, 8] ls st h)) ∧
  (∀ (ls : zL) (st : zS) (h : zH), zx 7 38 ls st h = zca 7 38 41 ls 25 3 4 (ztake 3 st) h) ∧
  (∀ (ls : zL) (st : zS) (h : zH), zx 7 41 ls st h = zgo 7 (zpure (.iload_n 1) 42 0 [] ls st h)) ∧
  (∀ (ls : zL) (st : zS) (h : zH), zx 7 42 ls st h = zgo 7 (zpure (.if_icmp .gt 23) 45 65 [] ls st h)) ∧
  (∀ (ls : zL) (st : zS) (h : zH), zx 7 45 ls st h = zgo 7 (zpure (.iload_n 1) 46 0 [] ls st h)) ∧
  (∀ (ls : zL) (st : zS) (h : zH), zx 7 46 ls st h = zgo 7 (zpure (.aload 4) 48 0 [] ls st h)) ∧
  (∀ (ls : zL) (st : zS) (h : zH), zx 7 48 ls st h = zgo 7 (zpure (.aload_n 0) 49 0 [] ls st h)) ∧
  (∀ (ls : zL) (st : zS) (h : zH), zx 7 49 ls st h = zgo 7 (zpure (.getfield 40) 52 0 [1, 7] ls st h)) ∧
  (∀ (ls : zL) (st : zS) (h : zH), zx 7 52 ls st h = zgo 7 (zpure (.aload_n 0) 53 0 [] ls st h)) ∧
  (∀ (ls : zL) (st : zS) (h : zH), zx 7 53 ls st h = zgo 7 (zpure (.getfield 43) 56 0 [1, 8] ls st h)) ∧
  (∀ (ls : zL) (st : zS) (h : zH), zx 7 56 ls st h = zca 7 56 59 ls 26 3 4 (ztake 3 st) h) ∧
  (∀ (ls : zL) (st : zS) (h : zH), zx 7 59 ls st h = zgo 7 (zpure (.if_icmp .ge 6) 62 65 [] ls st h)) ∧
  (∀ (ls : zL) (st : zS) (h : zH), zx 7 62 ls st h = zgo 7 (zpure (.iinc 2 1) 65 0 [] ls st h)) ∧
  (∀ (ls : zL) (st : zS) (h : zH), zx 7 65 ls st h = zgo 7 (zpure (.iinc 3 1) 68 0 [] ls st h)) ∧
  (∀ (ls : zL) (st : zS) (h : zH), zx 7 68 ls st h = zgo 7 (zpure (.goto (-64)) 71 4 [] ls st h)) ∧
  (∀ (ls : zL) (st : zS) (h : zH), zx 7 71 ls st h = zgo 7 (zpure (.iload_n 2) 72 0 [] ls st h)) ∧
  (∀ (ls : zL) (st : zS) (h : zH), zx 7 72 ls st h = zret 0 st h) :=
  ⟨zx_0 rfl, zx_0 rfl, zx_0 rfl, zx_0 rfl, zx_0 rfl, zx_0 rfl, zx_2c rfl, zx_0 rfl, zx_0 rfl, zx_0 rfl, zx_0 rfl, zx_2c rfl, zx_0 rfl, zx_0 rfl, zx_0 rfl, zx_0 rfl, zx_0 rfl, zx_0 rfl, zx_0 rfl, zx_2c rfl, zx_0 rfl, zx_0 rfl, zx_0 rfl, zx_0 rfl, zx_0 rfl, zx_0 rfl, zx_0 rfl, zx_0 rfl, zx_2c rfl, zx_0 rfl, zx_0 rfl, zx_0 rfl, zx_0 rfl, zx_0 rfl, zx_1 rfl⟩
/-- X2_init -/
theorem z8 :
  (∀ (ls : zL) (st : zS) (h : zH), zx 8 0 ls st h = zgo 8 (zpure (.aload_n 0) 1 0 [] ls st h)) ∧
  (∀ (ls : zL) (st : zS) (h : zH), zx 8 1 ls st h = zgo 8 (zpure (.invokespecial 3) 4 0 [] ls st h)) ∧
  (∀ (ls : zL) (st : zS) (h : zH), zx 8 4 ls st h = zgo 8 (zpure (.aload_n 0) 5 0 [] ls st h)) ∧
  (∀ (ls : zL) (st : zS) (h : zH), zx 8 5 ls st h = zgo 8 (zpure (.bipush 8) 7 0 [] ls st h)) ∧
  (∀ (ls : zL) (st : zS) (h : zH), zx 8 7 ls st h = zgo 8 (zpure (.newarray .int) 9 0 [] ls st h)) ∧
  (∀ (ls : zL) (st : zS) (h : zH), zx 8 9 ls st h = zgo 8 (zpure (.putfield 9) 12 0 [2, 0, 7] ls st h)) ∧
  (∀ (ls : zL) (st : zS) (h : zH), zx 8 12 ls st h = zgo 8 (zpure (.aload_n 0) 13 0 [] ls st h)) ∧
  (∀ (ls : zL) (st : zS) (h : zH), zx 8 13 ls st h = zgo 8 (zpure (.bipush 8) 15 0 [] ls st h)) ∧
  (∀ (ls : zL) (st : zS) (h : zH), zx 8 15 ls st h = zgo 8 (zpure (.newarray .int) 17 0 [] ls st h)) ∧
  (∀ (ls : zL) (st : zS) (h : zH), zx 8 17 ls st h = zgo 8 (zpure (.putfield 15) 20 0 [2, 1, 7] ls st h)) ∧
  (∀ (ls : zL) (st : zS) (h : zH), zx 8 20 ls st h = zgo 8 (zpure (.aload_n 0) 21 0 [] ls st h)) ∧
  (∀ (ls : zL) (st : zS) (h : zH), zx 8 21 ls st h = zgo 8 (zpure (.bipush 8) 23 0 [] ls st h)) ∧
  (∀ (ls : zL) (st : zS) (h : zH), zx 8 23 ls st h = zgo 8 (zpure (.newarray .int) 25 0 [] ls st h)) ∧
  (∀ (ls : zL) (st : zS) (h : zH), zx 8 25 ls st h = zgo 8 (zpure (.putfield 18) 28 0 [2, 2, 7] ls st h)) ∧
  (∀ (ls : zL) (st : zS) (h : zH), zx 8 28 ls st h = zgo 8 (zpure (.aload_n 0) 29 0 [] ls st h)) ∧
  (∀ (ls : zL) (st : zS) (h : zH), zx 8 29 ls st h = zgo 8 (zpure (.iconst 0) 30 0 [] ls st h)) ∧
  (∀ (ls : zL) (st : zS) (h : zH), zx 8 30 ls st h = zgo 8 (zpure (.putfield 21) 33 0 [2, 3, 0] ls st h)) ∧
  (∀ (ls : zL) (st : zS) (h : zH), zx 8 33 ls st h = zgo 8 (zpure (.aload_n 0) 34 0 [] ls st h)) ∧
  (∀ (ls : zL) (st : zS) (h : zH), zx 8 34 ls st h = zgo 8 (zpure (.bipush 9) 36 0 [] ls st h)) ∧
  (∀ (ls : zL) (st : zS) (h : zH), zx 8 36 ls st h = zgo 8 (zpure (.sipush 3601) 39 0 [] ls st h)) ∧
  (∀ (ls : zL) (st : zS) (h : zH), zx 8 39 ls st h = zgo 8 (zpure (.multianewarray 25 2) 43 0 [27, 21] ls st h)) ∧
  (∀ (ls : zL) (st : zS) (h : zH), zx 8 43 ls st h = zgo 8 (zpure (.putfield 27) 46 0 [2, 4, 7] ls st h)) ∧
  (∀ (ls : zL) (st : zS) (h : zH), zx 8 46 ls st h = zgo 8 (zpure (.aload_n 0) 47 0 [] ls st h)) ∧
  (∀ (ls : zL) (st : zS) (h : zH), zx 8 47 ls st h = zgo 8 (zpure (.iconst 0) 48 0 [] ls st h)) ∧
  (∀ (ls : zL) (st : zS) (h : zH), zx 8 48 ls st h = zgo 8 (zpure (.putfield 30) 51 0 [2, 5, 1] ls st h)) ∧
  (∀ (ls : zL) (st : zS) (h : zH), zx 8 51 ls st h = zgo 8 (zpure (.aload_n 0) 52 0 [] ls st h)) ∧
  (∀ (ls : zL) (st : zS) (h : zH), zx 8 52 ls st h = zgo 8 (zpure (.bipush 70) 54 0 [] ls st h)) ∧
  (∀ (ls : zL) (st : zS) (h : zH), zx 8 54 ls st h = zgo 8 (zpure (.newarray .int) 56 0 [] ls st h)) ∧
  (∀ (ls : zL) (st : zS) (h : zH), zx 8 56 ls st h = zgo 8 (zpure (.putfield 34) 59 0 [2, 6, 7] ls st h)) ∧
  (∀ (ls : zL) (st : zS) (h : zH), zx 8 59 ls st h = zgo 8 (zpure (.aload_n 0) 60 0 [] ls st h)) ∧
  (∀ (ls : zL) (st : zS) (h : zH), zx 8 60 ls st h = zgo 8 (zpure (.bipush 70) 62 0 [] ls st h)) ∧
  (∀ (ls : zL) (st : zS) (h : zH), zx 8 62 ls st h = zgo 8 (zpure (.newarray .int) 64 0 [] ls st h)) ∧
  (∀ (ls : zL) (st : zS) (h : zH), zx 8 64 ls st h = zgo 8 (zpure (.putfield 37) 67 0 [2, 7, 7] ls st h)) ∧
  (∀ (ls : zL) (st : zS) (h : zH), zx 8 67 ls st h = zgo 8 (zpure (.aload_n 0) 68 0 [] ls st h)) ∧
  (∀ (ls : zL) (st : zS) (h : zH), zx 8 68 ls st h = zgo 8 (zpure (.bipush 70) 70 0 [] ls st h)) ∧
  (∀ (ls : zL) (st : zS) (h : zH), zx 8 70 ls st h = zgo 8 (zpure (.newarray .int) 72 0 [] ls st h)) ∧
  (∀ (ls : zL) (st : zS) (h : zH), zx 8 72 ls st h = zgo 8 (zpure (.putfield 40) 75 0 [2, 8, 7] ls st h)) ∧
  (∀ (ls : zL) (st : zS) (h : zH), zx 8 75 ls st h = zgo 8 (zpure (.aload_n 0) 76 0 [] ls st h)) ∧
  (∀ (ls : zL) (st : zS) (h : zH), zx 8 76 ls st h = zgo 8 (zpure (.bipush 70) 78 0 [] ls st h)) ∧
  (∀ (ls : zL) (st : zS) (h : zH), zx 8 78 ls st h = zgo 8 (zpure (.newarray .int) 80 0 [] ls st h)) ∧
  (∀ (ls : zL) (st : zS) (h : zH), zx 8 80 ls st h = zgo 8 (zpure (.putfield 43) 83 0 [2, 9, 7] ls st h)) ∧
  (∀ (ls : zL) (st : zS) (h : zH), zx 8 83 ls st h = zgo 8 (zpure (.aload_n 0) 84 0 [] ls st h)) ∧
  (∀ (ls : zL) (st : zS) (h : zH), zx 8 84 ls st h = zgo 8 (zpure (.iconst 0) 85 0 [] ls st h)) ∧
  (∀ (ls : zL) (st : zS) (h : zH), zx 8 85 ls st h = zgo 8 (zpure (.putfield 46) 88 0 [2, 10, 0] ls st h)) ∧
  (∀ (ls : zL) (st : zS) (h : zH), zx 8 88 ls st h = zret 8 st h) :=
  ⟨zx_0 rfl, zx_0 rfl, zx_0 rfl, zx_0 rfl, zx_0 rfl, zx_0 rfl, zx_0 rfl, zx_0 rfl, zx_0 rfl, zx_0 rfl, zx_0 rfl, zx_0 rfl, zx_0 rfl, zx_0 rfl, zx_0 rfl, zx_0 rfl, zx_0 rfl, zx_0 rfl, zx_0 rfl, zx_0 rfl, zx_0 rfl, zx_0 rfl, zx_0 rfl, zx_0 rfl, zx_0 rfl, zx_0 rfl, zx_0 rfl, zx_0 rfl, zx_0 rfl, zx_0 rfl, zx_0 rfl, zx_0 rfl, zx_0 rfl, zx_0 rfl, zx_0 rfl, zx_0 rfl, zx_0 rfl, zx_0 rfl, zx_0 rfl, zx_0 rfl, zx_0 rfl, zx_0 rfl, zx_0 rfl, zx_0 rfl, zx_1 rfl⟩
theorem z9_8 : ∀ (ls : zL) (st : zS) (h : zH), zx 9 8 ls st h = zgo 9 (zpure (.iload 5) 10 0 [] ls st h) := zx_0 rfl
/-- X2_takePieces -/
theorem z9 :
  (∀ (ls : zL) (st : zS) (h : zH), zx 9 0 ls st h = zgo 9 (zpure (.iconst 0) 1 0 [] ls st h)) ∧
  (∀ (ls : zL) (st : zS) (h : zH), zx 9 1 ls st h = zgo 9 (zpure (.istore_n 3) 2 0 [] ls st h)) ∧
  (∀ (ls : zL) (st : zS) (h : zH), zx 9 2 ls st h = zgo 9 (zpure (.iconst 1) 3 0 [] ls st h)) ∧
  (∀ (ls : zL) (st : zS) (h : zH), zx 9 3 ls st h = zgo 9 (zpure (.istore 4) 5 0 [] ls st h)) ∧
  (∀ (ls : zL) (st : zS) (h : zH), zx 9 5 ls st h = zgo 9 (zpure (.iconst 0) 6 0 [] ls st h)) ∧
  (∀ (ls : zL) (st : zS) (h : zH), zx 9 6 ls st h = zgo 9 (zpure (.istore 5) 8 0 [] ls st h)) ∧
  (∀ (ls : zL) (st : zS) (h : zH), zx 9 10 ls st h = zgo 9 (zpure (.aload_n 1) 11 0 [] ls st h)) ∧
  (∀ (ls : zL) (st : zS) (h : zH), zx 9 11 ls st h = zca 9 11 14 ls 175 1 8 (ztake 1 st) h) ∧
  (∀ (ls : zL) (st : zS) (h : zH), zx 9 14 ls st h = zgo 9 (zpure (.if_icmp .ge 113) 17 127 [] ls st h)) ∧
  (∀ (ls : zL) (st : zS) (h : zH), zx 9 17 ls st h = zgo 9 (zpure (.iload_n 3) 18 0 [] ls st h)) ∧
  (∀ (ls : zL) (st : zS) (h : zH), zx 9 18 ls st h = zgo 9 (zpure (.bipush 8) 20 0 [] ls st h)) ∧
  (∀ (ls : zL) (st : zS) (h : zH), zx 9 20 ls st h = zgo 9 (zpure (.if_icmp .ge 107) 23 127 [] ls st h)) ∧
  (∀ (ls : zL) (st : zS) (h : zH), zx 9 23 ls st h = zgo 9 (zpure (.aload_n 1) 24 0 [] ls st h)) ∧
  (∀ (ls : zL) (st : zS) (h : zH), zx 9 24 ls st h = zgo 9 (zpure (.iload 5) 26 0 [] ls st h)) ∧
  (∀ (ls : zL) (st : zS) (h : zH), zx 9 26 ls st h = zca 9 26 29 ls 171 2 8 (ztake 2 st) h) ∧
  (∀ (ls : zL) (st : zS) (h : zH), zx 9 29 ls st h = zgo 9 (zpure (.checkcast 59) 32 0 [0] ls st h)) ∧
  (∀ (ls : zL) (st : zS) (h : zH), zx 9 32 ls st h = zgo 9 (zpure (.astore 6) 34 0 [] ls st h)) ∧
  (∀ (ls : zL) (st : zS) (h : zH), zx 9 34 ls st h = zgo 9 (zpure (.aload 6) 36 0 [] ls st h)) ∧
  (∀ (ls : zL) (st : zS) (h : zH), zx 9 36 ls st h = zgo 9 (zpure (.getfield 61) 39 0 [0, 1] ls st h)) ∧
  (∀ (ls : zL) (st : zS) (h : zH), zx 9 39 ls st h = zgo 9 (zpure (.ifCond .eq 82) 42 121 [] ls st h)) ∧
  (∀ (ls : zL) (st : zS) (h : zH), zx 9 42 ls st h = zgo 9 (zpure (.aload 6) 44 0 [] ls st h)) ∧
  (∀ (ls : zL) (st : zS) (h : zH), zx 9 44 ls st h = zgo 9 (zpure (.iload_n 2) 45 0 [] ls st h)) ∧
  (∀ (ls : zL) (st : zS) (h : zH), zx 9 45 ls st h = zca 9 45 48 ls 1 2 1 (ztake 2 st) h) ∧
  (∀ (ls : zL) (st : zS) (h : zH), zx 9 48 ls st h = zgo 9 (zpure (.ifCond .eq 73) 51 121 [] ls st h)) ∧
  (∀ (ls : zL) (st : zS) (h : zH), zx 9 51 ls st h = zgo 9 (zpure (.iload 4) 53 0 [] ls st h)) ∧
  (∀ (ls : zL) (st : zS) (h : zH), zx 9 53 ls st h = zgo 9 (zpure (.ifCond .eq 29) 56 82 [] ls st h)) ∧
  (∀ (ls : zL) (st : zS) (h : zH), zx 9 56 ls st h = zgo 9 (zpure (.iload_n 3) 57 0 [] ls st h)) ∧
  (∀ (ls : zL) (st : zS) (h : zH), zx 9 57 ls st h = zgo 9 (zpure (.aload_n 0) 58 0 [] ls st h)) ∧
  (∀ (ls : zL) (st : zS) (h : zH), zx 9 58 ls st h = zgo 9 (zpure (.getfield 21) 61 0 [2, 3] ls st h)) ∧
  (∀ (ls : zL) (st : zS) (h : zH), zx 9 61 ls st h = zgo 9 (zpure (.if_icmp .ge 21) 64 82 [] ls st h)) ∧
  (∀ (ls : zL) (st : zS) (h : zH), zx 9 64 ls st h = zgo 9 (zpure (.aload_n 0) 65 0 [] ls st h)) ∧
  (∀ (ls : zL) (st : zS) (h : zH), zx 9 65 ls st h = zgo 9 (zpure (.getfield 9) 68 0 [2, 0] ls st h)) ∧
  (∀ (ls : zL) (st : zS) (h : zH), zx 9 68 ls st h = zgo 9 (zpure (.iload_n 3) 69 0 [] ls st h)) ∧
  (∀ (ls : zL) (st : zS) (h : zH), zx 9 69 ls st h = zgo 9 (zpure .iaload 70 0 [] ls st h)) ∧
  (∀ (ls : zL) (st : zS) (h : zH), zx 9 70 ls st h = zgo 9 (zpure (.aload 6) 72 0 [] ls st h)) ∧
  (∀ (ls : zL) (st : zS) (h : zH), zx 9 72 ls st h = zgo 9 (zpure (.getfield 68) 75 0 [0, 0] ls st h)) ∧
  (∀ (ls : zL) (st : zS) (h : zH), zx 9 75 ls st h = zgo 9 (zpure (.if_icmp .ne 7) 78 82 [] ls st h)) ∧
  (∀ (ls : zL) (st : zS) (h : zH), zx 9 78 ls st h = zgo 9 (zpure (.iconst 1) 79 0 [] ls st h)) ∧
  (∀ (ls : zL) (st : zS) (h : zH), zx 9 79 ls st h = zgo 9 (zpure (.goto 4) 82 83 [] ls st h)) ∧
  (∀ (ls : zL) (st : zS) (h : zH), zx 9 82 ls st h = zgo 9 (zpure (.iconst 0) 83 0 [] ls st h)) ∧
  (∀ (ls : zL) (st : zS) (h : zH), zx 9 83 ls st h = zgo 9 (zpure (.istore 4) 85 0 [] ls st h)) ∧
  (∀ (ls : zL) (st : zS) (h : zH), zx 9 85 ls st h = zgo 9 (zpure (.aload_n 0) 86 0 [] ls st h)) ∧
  (∀ (ls : zL) (st : zS) (h : zH), zx 9 86 ls st h = zgo 9 (zpure (.getfield 9) 89 0 [2, 0] ls st h)) ∧
  (∀ (ls : zL) (st : zS) (h : zH), zx 9 89 ls st h = zgo 9 (zpure (.iload_n 3) 90 0 [] ls st h)) ∧
  (∀ (ls : zL) (st : zS) (h : zH), zx 9 90 ls st h = zgo 9 (zpure (.aload 6) 92 0 [] ls st h)) ∧
  (∀ (ls : zL) (st : zS) (h : zH), zx 9 92 ls st h = zgo 9 (zpure (.getfield 68) 95 0 [0, 0] ls st h)) ∧
  (∀ (ls : zL) (st : zS) (h : zH), zx 9 95 ls st h = zgo 9 (zpure .iastore 96 0 [] ls st h)) ∧
  (∀ (ls : zL) (st : zS) (h : zH), zx 9 96 ls st h = zgo 9 (zpure (.aload_n 0) 97 0 [] ls st h)) ∧
  (∀ (ls : zL) (st : zS) (h : zH), zx 9 97 ls st h = zgo 9 (zpure (.getfield 15) 100 0 [2, 1] ls st h)) ∧
  (∀ (ls : zL) (st : zS) (h : zH), zx 9 100 ls st h = zgo 9 (zpure (.iload_n 3) 101 0 [] ls st h)) ∧
  (∀ (ls : zL) (st : zS) (h : zH), zx 9 101 ls st h = zgo 9 (zpure (.aload 6) 103 0 [] ls st h)) ∧
  (∀ (ls : zL) (st : zS) (h : zH), zx 9 103 ls st h = zgo 9 (zpure (.getfield 71) 106 0 [0, 2] ls st h)) ∧
  (∀ (ls : zL) (st : zS) (h : zH), zx 9 106 ls st h = zgo 9 (zpure .iastore 107 0 [] ls st h)) ∧
  (∀ (ls : zL) (st : zS) (h : zH), zx 9 107 ls st h = zgo 9 (zpure (.aload_n 0) 108 0 [] ls st h)) ∧
  (∀ (ls : zL) (st : zS) (h : zH), zx 9 108 ls st h = zgo 9 (zpure (.getfield 18) 111 0 [2, 2] ls st h)) ∧
  (∀ (ls : zL) (st : zS) (h : zH), zx 9 111 ls st h = zgo 9 (zpure (.iload_n 3) 112 0 [] ls st h)) ∧
  (∀ (ls : zL) (st : zS) (h : zH), zx 9 112 ls st h = zgo 9 (zpure (.aload 6) 114 0 [] ls st h)) ∧
  (∀ (ls : zL) (st : zS) (h : zH), zx 9 114 ls st h = zgo 9 (zpure (.getfield 74) 117 0 [0, 3] ls st h)) ∧
  (∀ (ls : zL) (st : zS) (h : zH), zx 9 117 ls st h = zgo 9 (zpure .iastore 118 0 [] ls st h)) ∧
  (∀ (ls : zL) (st : zS) (h : zH), zx 9 118 ls st h = zgo 9 (zpure (.iinc 3 1) 121 0 [] ls st h)) ∧
  (∀ (ls : zL) (st : zS) (h : zH), zx 9 121 ls st h = zgo 9 (zpure (.iinc 5 1) 124 0 [] ls st h)) ∧
  (∀ (ls : zL) (st : zS) (h : zH), zx 9 124 ls st h = zgo 9 (zpure (.goto (-116)) 127 8 [] ls st h)) ∧
  (∀ (ls : zL) (st : zS) (h : zH), zx 9 127 ls st h = zgo 9 (zpure (.aload_n 0) 128 0 [] ls st h)) ∧
  (∀ (ls : zL) (st : zS) (h : zH), zx 9 128 ls st h = zgo 9 (zpure (.aload_n 0) 129 0 [] ls st h)) ∧
  (∀ (ls : zL) (st : zS) (h : zH), zx 9 129 ls st h = zgo 9 (zpure (.getfield 30) 132 0 [2, 5] ls st h)) ∧
  (∀ (ls : zL) (st : zS) (h : zH), zx 9 132 ls st h = zgo 9 (zpure (.ifCond .eq 20) 135 152 [] ls st h)) ∧
  (∀ (ls : zL) (st : zS) (h : zH), zx 9 135 ls st h = zgo 9 (zpure (.iload 4) 137 0 [] ls st h)) ∧
  (∀ (ls : zL) (st : zS) (h : zH), zx 9 137 ls st h = zgo 9 (zpure (.ifCond .eq 15) 140 152 [] ls st h)) ∧
  (∀ (ls : zL) (st : zS) (h : zH), zx 9 140 ls st h = zgo 9 (zpure (.iload_n 3) 141 0 [] ls st h)) ∧
  (∀ (ls : zL) (st : zS) (h : zH), zx 9 141 ls st h = zgo 9 (zpure (.aload_n 0) 142 0 [] ls st h)) ∧
  (∀ (ls : zL) (st : zS) (h : zH), zx 9 142 ls st h = zgo 9 (zpure (.getfield 21) 145 0 [2, 3] ls st h)) ∧
  (∀ (ls : zL) (st : zS) (h : zH), zx 9 145 ls st h = zgo 9 (zpure (.if_icmp .ne 7) 148 152 [] ls st h)) ∧
  (∀ (ls : zL) (st : zS) (h : zH), zx 9 148 ls st h = zgo 9 (zpure (.iconst 1) 149 0 [] ls st h)) ∧
  (∀ (ls : zL) (st : zS) (h : zH), zx 9 149 ls st h = zgo 9 (zpure (.goto 4) 152 153 [] ls st h)) ∧
  (∀ (ls : zL) (st : zS) (h : zH), zx 9 152 ls st h = zgo 9 (zpure (.iconst 0) 153 0 [] ls st h)) ∧
  (∀ (ls : zL) (st : zS) (h : zH), zx 9 153 ls st h = zgo 9 (zpure (.putfield 30) 156 0 [2, 5, 1] ls st h)) ∧
  (∀ (ls : zL) (st : zS) (h : zH), zx 9 156 ls st h = zgo 9 (zpure (.aload_n 0) 157 0 [] ls st h)) ∧
  (∀ (ls : zL) (st : zS) (h : zH), zx 9 157 ls st h = zgo 9 (zpure (.iload_n 3) 158 0 [] ls st h)) ∧
  (∀ (ls : zL) (st : zS) (h : zH), zx 9 158 ls st h = zgo 9 (zpure (.putfield 21) 161 0 [2, 3, 0] ls st h)) ∧
  (∀ (ls : zL) (st : zS) (h : zH), zx 9 161 ls st h = zret 8 st h) :=
  ⟨zx_0 rfl, zx_0 rfl, zx_0 rfl, zx_0 rfl, zx_0 rfl, zx_0 rfl, zx_0 rfl, zx_2c rfl, zx_0 rfl, zx_0 rfl, zx_0 rfl, zx_0 rfl, zx_0 rfl, zx_0 rfl, zx_2c rfl, zx_0 rfl, zx_0 rfl, zx_0 rfl, zx_0 rfl, zx_0 rfl, zx_0 rfl, zx_0 rfl, zx_2c rfl, zx_0 rfl, zx_0 rfl, zx_0 rfl, zx_0 rfl, zx_0 rfl, zx_0 rfl, zx_0 rfl, zx_0 rfl, zx_0 rfl, zx_0 rfl, zx_0 rfl, zx_0 rfl, zx_0 rfl, zx_0 rfl, zx_0 rfl, zx_0 rfl, zx_0 rfl, zx_0 rfl, zx_0 rfl, zx_0 rfl, zx_0 rfl, zx_0 rfl, zx_0 rfl, zx_0 rfl, zx_0 rfl, zx_0 rfl, zx_0 rfl, zx_0 rfl, zx_0 rfl, zx_0 rfl, zx_0 rfl, zx_0 rfl, zx_0 rfl, zx_0 rfl, zx_0 rfl, zx_0 rfl, zx_0 rfl, zx_0 rfl, zx_0 rfl, zx_0 rfl, zx_0 rfl, zx_0 rfl, zx_0 rfl, zx_0 rfl, zx_0 rfl, zx_0 rfl, zx_0 rfl, zx_0 rfl, zx_0 rfl, zx_0 rfl, zx_0 rfl, zx_0 rfl, zx_0 rfl, zx_0 rfl, zx_0 rfl, zx_0 rfl, zx_1 rfl⟩
/-- X2_isIn -/
theorem z10 :
  (∀ (ls : zL) (st : zS) (h : zH), zx 10 0 ls st h = zgo 10 (zpure (.iload_n 1) 1 0 [] ls st h)) ∧
  (∀ (ls : zL) (st : zS) (h : zH), zx 10 1 ls st h = zgo 10 (zpure (.bipush 7) 3 0 [] ls st h)) ∧
  (∀ (ls : zL) (st : zS) (h : zH), zx 10 3 ls st h = zgo 10 (zpure (.iload_n 2) 4 0 [] ls st h)) ∧
  (∀ (ls : zL) (st : zS) (h : zH), zx 10 4 ls st h = zgo 10 (zpure .isub 5 0 [] ls st h)) ∧
  (∀ (ls : zL) (st : zS) (h : zH), zx 10 5 ls st h = zgo 10 (zpure .ishr 6 0 [] ls st h)) ∧
  (∀ (ls : zL) (st : zS) (h : zH), zx 10 6 ls st h = zgo 10 (zpure (.iconst 1) 7 0 [] ls st h)) ∧
  (∀ (ls : zL) (st : zS) (h : zH), zx 10 7 ls st h = zgo 10 (zpure .iand 8 0 [] ls st h)) ∧
  (∀ (ls : zL) (st : zS) (h : zH), zx 10 8 ls st h = zgo 10 (zpure (.iconst 1) 9 0 [] ls st h)) ∧
  (∀ (ls : zL) (st : zS) (h : zH), zx 10 9 ls st h = zgo 10 (zpure (.if_icmp .ne 7) 12 16 [] ls st h)) ∧
  (∀ (ls : zL) (st : zS) (h : zH), zx 10 12 ls st h = zgo 10 (zpure (.iconst 1) 13 0 [] ls st h)) ∧
  (∀ (ls : zL) (st : zS) (h : zH), zx 10 13 ls st h = zgo 10 (zpure (.goto 4) 16 17 [] ls st h)) ∧
  (∀ (ls : zL) (st : zS) (h : zH), zx 10 16 ls st h = zgo 10 (zpure (.iconst 0) 17 0 [] ls st h)) ∧
  (∀ (ls : zL) (st : zS) (h : zH), zx 10 17 ls st h = zret 1 st h) :=
  ⟨zx_0 rfl, zx_0 rfl, zx_0 rfl, zx_0 rfl, zx_0 rfl, zx_0 rfl, zx_0 rfl, zx_0 rfl, zx_0 rfl, zx_0 rfl, zx_0 rfl, zx_0 rfl, zx_1 rfl⟩
/-- X2_numberOf -/
theorem z11 :
  (∀ (ls : zL) (st : zS) (h : zH), zx 11 0 ls st h = zgo 11 (zpure (.iload_n 1) 1 0 [] ls st h)) ∧
  (∀ (ls : zL) (st : zS) (h : zH), zx 11 1 ls st h = zgo 11 (zpure (.ifCond .lt 26) 4 27 [] ls st h)) ∧
  (∀ (ls : zL) (st : zS) (h : zH), zx 11 4 ls st h = zgo 11 (zpure (.iload_n 1) 5 0 [] ls st h)) ∧
  (∀ (ls : zL) (st : zS) (h : zH), zx 11 5 ls st h = zgo 11 (zpure (.aload_n 0) 6 0 [] ls st h)) ∧
  (∀ (ls : zL) (st : zS) (h : zH), zx 11 6 ls st h = zgo 11 (zpure (.getfield 21) 9 0 [2, 3] ls st h)) ∧
  (∀ (ls : zL) (st : zS) (h : zH), zx 11 9 ls st h = zgo 11 (zpure (.if_icmp .ge 18) 12 27 [] ls st h)) ∧
  (∀ (ls : zL) (st : zS) (h : zH), zx 11 12 ls st h = zgo 11 (zpure (.iload_n 1) 13 0 [] ls st h)) ∧
  (∀ (ls : zL) (st : zS) (h : zH), zx 11 13 ls st h = zgo 11 (zpure (.bipush 8) 15 0 [] ls st h)) ∧
  (∀ (ls : zL) (st : zS) (h : zH), zx 11 15 ls st h = zgo 11 (zpure (.if_icmp .ge 12) 18 27 [] ls st h)) ∧
  (∀ (ls : zL) (st : zS) (h : zH), zx 11 18 ls st h = zgo 11 (zpure (.aload_n 0) 19 0 [] ls st h)) ∧
  (∀ (ls : zL) (st : zS) (h : zH), zx 11 19 ls st h = zgo 11 (zpure (.getfield 9) 22 0 [2, 0] ls st h)) ∧
  (∀ (ls : zL) (st : zS) (h : zH), zx 11 22 ls st h = zgo 11 (zpure (.iload_n 1) 23 0 [] ls st h)) ∧
  (∀ (ls : zL) (st : zS) (h : zH), zx 11 23 ls st h = zgo 11 (zpure .iaload 24 0 [] ls st h)) ∧
  (∀ (ls : zL) (st : zS) (h : zH), zx 11 24 ls st h = zgo 11 (zpure (.goto 4) 27 28 [] ls st h)) ∧
  (∀ (ls : zL) (st : zS) (h : zH), zx 11 27 ls st h = zgo 11 (zpure (.iconst (-1)) 28 0 [] ls st h)) ∧
  (∀ (ls : zL) (st : zS) (h : zH), zx 11 28 ls st h = zret 0 st h) :=
  ⟨zx_0 rfl, zx_0 rfl, zx_0 rfl, zx_0 rfl, zx_0 rfl, zx_0 rfl, zx_0 rfl, zx_0 rfl, zx_0 rfl, zx_0 rfl, zx_0 rfl, zx_0 rfl, zx_0 rfl, zx_0 rfl, zx_0 rfl, zx_1 rfl⟩
/-- X2_lengthOf -/
theorem z12 :
  (∀ (ls : zL) (st : zS) (h : zH), zx 12 0 ls st h = zgo 12 (zpure (.iload_n 1) 1 0 [] ls st h)) ∧
  (∀ (ls : zL) (st : zS) (h : zH), zx 12 1 ls st h = zgo 12 (zpure (.ifCond .lt 26) 4 27 [] ls st h)) ∧
  (∀ (ls : zL) (st : zS) (h : zH), zx 12 4 ls st h = zgo 12 (zpure (.iload_n 1) 5 0 [] ls st h)) ∧
  (∀ (ls : zL) (st : zS) (h : zH), zx 12 5 ls st h = zgo 12 (zpure (.aload_n 0) 6 0 [] ls st h)) ∧
  (∀ (ls : zL) (st : zS) (h : zH), zx 12 6 ls st h = zgo 12 (zpure (.getfield 21) 9 0 [2, 3] ls st h)) ∧
  (∀ (ls : zL) (st : zS) (h : zH), zx 12 9 ls st h = zgo 12 (zpure (.if_icmp .ge 18) 12 27 [] ls st h)) ∧
  (∀ (ls : zL) (st : zS) (h : zH), zx 12 12 ls st h = zgo 12 (zpure (.iload_n 1) 13 0 [] ls st h)) ∧
  (∀ (ls : zL) (st : zS) (h : zH), zx 12 13 ls st h = zgo 12 (zpure (.bipush 8) 15 0 [] ls st h)) ∧
  (∀ (ls : zL) (st : zS) (h : zH), zx 12 15 ls st h = zgo 12 (zpure (.if_icmp .ge 12) 18 27 [] ls st h)) ∧
  (∀ (ls : zL) (st : zS) (h : zH), zx 12 18 ls st h = zgo 12 (zpure (.aload_n 0) 19 0 [] ls st h)) ∧
  (∀ (ls : zL) (st : zS) (h : zH), zx 12 19 ls st h = zgo 12 (zpure (.getfield 15) 22 0 [2, 1] ls st h)) ∧
  (∀ (ls : zL) (st : zS) (h : zH), zx 12 22 ls st h = zgo 12 (zpure (.iload_n 1) 23 0 [] ls st h)) ∧
  (∀ (ls : zL) (st : zS) (h : zH), zx 12 23 ls st h = zgo 12 (zpure .iaload 24 0 [] ls st h)) ∧
  (∀ (ls : zL) (st : zS) (h : zH), zx 12 24 ls st h = zgo 12 (zpure (.goto 4) 27 28 [] ls st h)) ∧
  (∀ (ls : zL) (st : zS) (h : zH), zx 12 27 ls st h = zgo 12 (zpure (.iconst 0) 28 0 [] ls st h)) ∧
  (∀ (ls : zL) (st : zS) (h : zH), zx 12 28 ls st h = zret 0 st h) :=
  ⟨zx_0 rfl, zx_0 rfl, zx_0 rfl, zx_0 rfl, zx_0 rfl, zx_0 rfl, zx_0 rfl, zx_0 rfl, zx_0 rfl, zx_0 rfl, zx_0 rfl, zx_0 rfl, zx_0 rfl, zx_0 rfl, zx_0 rfl, zx_1 rfl⟩
/-- X2_levelOf -/
theorem z13 :
  (∀ (ls : zL) (st : zS) (h : zH), zx 13 0 ls st h = zgo 13 (zpure (.iload_n 1) 1 0 [] ls st h)) ∧
  (∀ (ls : zL) (st : zS) (h : zH), zx 13 1 ls st h = zgo 13 (zpure (.ifCond .lt 26) 4 27 [] ls st h)) ∧
  (∀ (ls : zL) (st : zS) (h : zH), zx 13 4 ls st h = zgo 13 (zpure (.iload_n 1) 5 0 [] ls st h)) ∧
  (∀ (ls : zL) (st : zS) (h : zH), zx 13 5 ls st h = zgo 13 (zpure (.aload_n 0) 6 0 [] ls st h)) ∧
  (∀ (ls : zL) (st : zS) (h : zH), zx 13 6 ls st h = zgo 13 (zpure (.getfield 21) 9 0 [2, 3] ls st h)) ∧
  (∀ (ls : zL) (st : zS) (h : zH), zx 13 9 ls st h = zgo 13 (zpure (.if_icmp .ge 18) 12 27 [] ls st h)) ∧
  (∀ (ls : zL) (st : zS) (h : zH), zx 13 12 ls st h = zgo 13 (zpure (.iload_n 1) 13 0 [] ls st h)) ∧
  (∀ (ls : zL) (st : zS) (h : zH), zx 13 13 ls st h = zgo 13 (zpure (.bipush 8) 15 0 [] ls st h)) ∧
  (∀ (ls : zL) (st : zS) (h : zH), zx 13 15 ls st h = zgo 13 (zpure (.if_icmp .ge 12) 18 27 [] ls st h)) ∧
  (∀ (ls : zL) (st : zS) (h : zH), zx 13 18 ls st h = zgo 13 (zpure (.aload_n 0) 19 0 [] ls st h)) ∧
  (∀ (ls : zL) (st : zS) (h : zH), zx 13 19 ls st h = zgo 13 (zpure (.getfield 18) 22 0 [2, 2] ls st h)) ∧
  (∀ (ls : zL) (st : zS) (h : zH), zx 13 22 ls st h = zgo 13 (zpure (.iload_n 1) 23 0 [] ls st h)) ∧
  (∀ (ls : zL) (st : zS) (h : zH), zx 13 23 ls st h = zgo 13 (zpure .iaload 24 0 [] ls st h)) ∧
  (∀ (ls : zL) (st : zS) (h : zH), zx 13 24 ls st h = zgo 13 (zpure (.goto 4) 27 28 [] ls st h)) ∧
  (∀ (ls : zL) (st : zS) (h : zH), zx 13 27 ls st h = zgo 13 (zpure (.iconst 0) 28 0 [] ls st h)) ∧
  (∀ (ls : zL) (st : zS) (h : zH), zx 13 28 ls st h = zret 0 st h) :=
  ⟨zx_0 rfl, zx_0 rfl, zx_0 rfl, zx_0 rfl, zx_0 rfl, zx_0 rfl, zx_0 rfl, zx_0 rfl, zx_0 rfl, zx_0 rfl, zx_0 rfl, zx_0 rfl, zx_0 rfl, zx_0 rfl, zx_0 rfl, zx_1 rfl⟩
theorem z14_13 : ∀ (ls : zL) (st : zS) (h : zH), zx 14 13 ls st h = zgo 14 (zpure (.iload 5) 15 0 [] ls st h) := zx_0 rfl
/-- X2_deviationOf -/
theorem z14 :
  (∀ (ls : zL) (st : zS) (h : zH), zx 14 0 ls st h = zgo 14 (zpure (.iload_n 2) 1 0 [] ls st h)) ∧
  (∀ (ls : zL) (st : zS) (h : zH), zx 14 1 ls st h = zgo 14 (zpure (.iconst 1) 2 0 [] ls st h)) ∧
  (∀ (ls : zL) (st : zS) (h : zH), zx 14 2 ls st h = zgo 14 (zpure (.if_icmp .ge 5) 5 7 [] ls st h)) ∧
  (∀ (ls : zL) (st : zS) (h : zH), zx 14 5 ls st h = zgo 14 (zpure (.fconst 0) 6 0 [] ls st h)) ∧
  (∀ (ls : zL) (st : zS) (h : zH), zx 14 6 ls st h = zret 5 st h) ∧
  (∀ (ls : zL) (st : zS) (h : zH), zx 14 7 ls st h = zgo 14 (zpure (.fconst 0) 8 0 [] ls st h)) ∧
  (∀ (ls : zL) (st : zS) (h : zH), zx 14 8 ls st h = zgo 14 (zpure (.fstore 4) 10 0 [] ls st h)) ∧
  (∀ (ls : zL) (st : zS) (h : zH), zx 14 10 ls st h = zgo 14 (zpure (.iconst 0) 11 0 [] ls st h)) ∧
  (∀ (ls : zL) (st : zS) (h : zH), zx 14 11 ls st h = zgo 14 (zpure (.istore 5) 13 0 [] ls st h)) ∧
  (∀ (ls : zL) (st : zS) (h : zH), zx 14 15 ls st h = zgo 14 (zpure (.aload_n 0) 16 0 [] ls st h)) ∧
  (∀ (ls : zL) (st : zS) (h : zH), zx 14 16 ls st h = zgo 14 (zpure (.getfield 21) 19 0 [2, 3] ls st h)) ∧
  (∀ (ls : zL) (st : zS) (h : zH), zx 14 19 ls st h = zgo 14 (zpure (.if_icmp .ge 38) 22 57 [] ls st h)) ∧
  (∀ (ls : zL) (st : zS) (h : zH), zx 14 22 ls st h = zgo 14 (zpure (.aload_n 0) 23 0 [] ls st h)) ∧
  (∀ (ls : zL) (st : zS) (h : zH), zx 14 23 ls st h = zgo 14 (zpure (.iload_n 1) 24 0 [] ls st h)) ∧
  (∀ (ls : zL) (st : zS) (h : zH), zx 14 24 ls st h = zgo 14 (zpure (.iload 5) 26 0 [] ls st h)) ∧
  (∀ (ls : zL) (st : zS) (h : zH), zx 14 26 ls st h = zca 14 26 29 ls 10 3 3 (ztake 3 st) h) ∧
  (∀ (ls : zL) (st : zS) (h : zH), zx 14 29 ls st h = zgo 14 (zpure (.ifCond .eq 22) 32 51 [] ls st h)) ∧
  (∀ (ls : zL) (st : zS) (h : zH), zx 14 32 ls st h = zgo 14 (zpure (.fload 4) 34 0 [] ls st h)) ∧
  (∀ (ls : zL) (st : zS) (h : zH), zx 14 34 ls st h = zgo 14 (zpure (.aload_n 0) 35 0 [] ls st h)) ∧
  (∀ (ls : zL) (st : zS) (h : zH), zx 14 35 ls st h = zgo 14 (zpure (.iload 5) 37 0 [] ls st h)) ∧
  (∀ (ls : zL) (st : zS) (h : zH), zx 14 37 ls st h = zca 14 37 40 ls 13 2 3 (ztake 2 st) h) ∧
  (∀ (ls : zL) (st : zS) (h : zH), zx 14 40 ls st h = zgo 14 (zpure (.aload_n 0) 41 0 [] ls st h)) ∧
  (∀ (ls : zL) (st : zS) (h : zH), zx 14 41 ls st h = zgo 14 (zpure (.iload 5) 43 0 [] ls st h)) ∧
  (∀ (ls : zL) (st : zS) (h : zH), zx 14 43 ls st h = zca 14 43 46 ls 12 2 3 (ztake 2 st) h) ∧
  (∀ (ls : zL) (st : zS) (h : zH), zx 14 46 ls st h = zgo 14 (zpure .imul 47 0 [] ls st h)) ∧
  (∀ (ls : zL) (st : zS) (h : zH), zx 14 47 ls st h = zgo 14 (zpure .i2f 48 0 [] ls st h)) ∧
  (∀ (ls : zL) (st : zS) (h : zH), zx 14 48 ls st h = zgo 14 (zpure .fadd 49 0 [] ls st h)) ∧
  (∀ (ls : zL) (st : zS) (h : zH), zx 14 49 ls st h = zgo 14 (zpure (.fstore 4) 51 0 [] ls st h)) ∧
  (∀ (ls : zL) (st : zS) (h : zH), zx 14 51 ls st h = zgo 14 (zpure (.iinc 5 1) 54 0 [] ls st h)) ∧
  (∀ (ls : zL) (st : zS) (h : zH), zx 14 54 ls st h = zgo 14 (zpure (.goto (-41)) 57 13 [] ls st h)) ∧
  (∀ (ls : zL) (st : zS) (h : zH), zx 14 57 ls st h = zgo 14 (zpure (.fload 4) 59 0 [] ls st h)) ∧
  (∀ (ls : zL) (st : zS) (h : zH), zx 14 59 ls st h = zgo 14 (zpure (.iload_n 2) 60 0 [] ls st h)) ∧
  (∀ (ls : zL) (st : zS) (h : zH), zx 14 60 ls st h = zgo 14 (zpure .i2f 61 0 [] ls st h)) ∧
  (∀ (ls : zL) (st : zS) (h : zH), zx 14 61 ls st h = zgo 14 (zpure .fdiv 62 0 [] ls st h)) ∧
  (∀ (ls : zL) (st : zS) (h : zH), zx 14 62 ls st h = zgo 14 (zpure (.iload_n 3) 63 0 [] ls st h)) ∧
  (∀ (ls : zL) (st : zS) (h : zH), zx 14 63 ls st h = zgo 14 (zpure .i2f 64 0 [] ls st h)) ∧
  (∀ (ls : zL) (st : zS) (h : zH), zx 14 64 ls st h = zgo 14 (zpure .fsub 65 0 [] ls st h)) ∧
  (∀ (ls : zL) (st : zS) (h : zH), zx 14 65 ls st h = zgo 14 (zpure (.fstore 5) 67 0 [] ls st h)) ∧
  (∀ (ls : zL) (st : zS) (h : zH), zx 14 67 ls st h = zgo 14 (zpure (.fload 5) 69 0 [] ls st h)) ∧
  (∀ (ls : zL) (st : zS) (h : zH), zx 14 69 ls st h = zgo 14 (zpure (.fconst 0) 70 0 [] ls st h)) ∧
  (∀ (ls : zL) (st : zS) (h : zH), zx 14 70 ls st h = zgo 14 (zpure (.fcmp .g) 71 0 [] ls st h)) ∧
  (∀ (ls : zL) (st : zS) (h : zH), zx 14 71 ls st h = zgo 14 (zpure (.ifCond .ge 9) 74 80 [] ls st h)) ∧
  (∀ (ls : zL) (st : zS) (h : zH), zx 14 74 ls st h = zgo 14 (zpure (.fload 5) 76 0 [] ls st h)) ∧
  (∀ (ls : zL) (st : zS) (h : zH), zx 14 76 ls st h = zgo 14 (zpure .fneg 77 0 [] ls st h)) ∧
  (∀ (ls : zL) (st : zS) (h : zH), zx 14 77 ls st h = zgo 14 (zpure (.goto 5) 80 82 [] ls st h)) ∧
  (∀ (ls : zL) (st : zS) (h : zH), zx 14 80 ls st h = zgo 14 (zpure (.fload 5) 82 0 [] ls st h)) ∧
  (∀ (ls : zL) (st : zS) (h : zH), zx 14 82 ls st h = zret 5 st h) :=
  ⟨zx_0 rfl, zx_0 rfl, zx_0 rfl, zx_0 rfl, zx_1 rfl, zx_0 rfl, zx_0 rfl, zx_0 rfl, zx_0 rfl, zx_0 rfl, zx_0 rfl, zx_0 rfl, zx_0 rfl, zx_0 rfl, zx_0 rfl, zx_2c rfl, zx_0 rfl, zx_0 rfl, zx_0 rfl, zx_0 rfl, zx_2c rfl, zx_0 rfl, zx_0 rfl, zx_2c rfl, zx_0 rfl, zx_0 rfl, zx_0 rfl, zx_0 rfl, zx_0 rfl, zx_0 rfl, zx_0 rfl, zx_0 rfl, zx_0 rfl, zx_0 rfl, zx_0 rfl, zx_0 rfl, zx_0 rfl, zx_0 rfl, zx_0 rfl, zx_0 rfl, zx_0 rfl, zx_0 rfl, zx_0 rfl, zx_0 rfl, zx_0 rfl, zx_0 rfl, zx_1 rfl⟩
theorem z15_53 : ∀ (ls : zL) (st : zS) (h : zH), zx 15 53 ls st h = zgo 15 (zpure (.iload 5) 55 0 [] ls st h) := zx_0 rfl
/-- X2_chooseBySums -/
theorem z15 :
  (∀ (ls : zL) (st : zS) (h : zH), zx 15 0 ls st h = zgo 15 (zpure (.iload_n 1) 1 0 [] ls st h)) ∧
  (∀ (ls : zL) (st : zS) (h : zH), zx 15 1 ls st h = zgo 15 (zpure (.iconst 1) 2 0 [] ls st h)) ∧
  (∀ (ls : zL) (st : zS) (h : zH), zx 15 2 ls st h = zgo 15 (zpure (.if_icmp .lt 10) 5 12 [] ls st h)) ∧
  (∀ (ls : zL) (st : zS) (h : zH), zx 15 5 ls st h = zgo 15 (zpure (.iload_n 1) 6 0 [] ls st h)) ∧
  (∀ (ls : zL) (st : zS) (h : zH), zx 15 6 ls st h = zgo 15 (zpure (.sipush 3600) 9 0 [] ls st h)) ∧
  (∀ (ls : zL) (st : zS) (h : zH), zx 15 9 ls st h = zgo 15 (zpure (.if_icmp .le 5) 12 14 [] ls st h)) ∧
  (∀ (ls : zL) (st : zS) (h : zH), zx 15 12 ls st h = zgo 15 (zpure (.iconst 0) 13 0 [] ls st h)) ∧
  (∀ (ls : zL) (st : zS) (h : zH), zx 15 13 ls st h = zret 0 st h) ∧
  (∀ (ls : zL) (st : zS) (h : zH), zx 15 14 ls st h = zgo 15 (zpure (.aload_n 0) 15 0 [] ls st h)) ∧
  (∀ (ls : zL) (st : zS) (h : zH), zx 15 15 ls st h = zgo 15 (zpure (.getfield 30) 18 0 [2, 5] ls st h)) ∧
  (∀ (ls : zL) (st : zS) (h : zH), zx 15 18 ls st h = zgo 15 (zpure (.ifCond .ne 7) 21 25 [] ls st h)) ∧
  (∀ (ls : zL) (st : zS) (h : zH), zx 15 21 ls st h = zgo 15 (zpure (.aload_n 0) 22 0 [] ls st h)) ∧
  (∀ (ls : zL) (st : zS) (h : zH), zx 15 22 ls st h = zca 15 22 25 ls 16 2 3 (ztake 1 st) h) ∧
  (∀ (ls : zL) (st : zS) (h : zH), zx 15 25 ls st h = zgo 15 (zpure (.aload_n 0) 26 0 [] ls st h)) ∧
  (∀ (ls : zL) (st : zS) (h : zH), zx 15 26 ls st h = zgo 15 (zpure (.getfield 27) 29 0 [2, 4] ls st h)) ∧
  (∀ (ls : zL) (st : zS) (h : zH), zx 15 29 ls st h = zgo 15 (zpure (.iconst 0) 30 0 [] ls st h)) ∧
  (∀ (ls : zL) (st : zS) (h : zH), zx 15 30 ls st h = zgo 15 (zpure .aaload 31 0 [] ls st h)) ∧
  (∀ (ls : zL) (st : zS) (h : zH), zx 15 31 ls st h = zgo 15 (zpure (.iload_n 1) 32 0 [] ls st h)) ∧
  (∀ (ls : zL) (st : zS) (h : zH), zx 15 32 ls st h = zgo 15 (zpure .baload 33 0 [] ls st h)) ∧
  (∀ (ls : zL) (st : zS) (h : zH), zx 15 33 ls st h = zgo 15 (zpure (.bipush 9) 35 0 [] ls st h)) ∧
  (∀ (ls : zL) (st : zS) (h : zH), zx 15 35 ls st h = zgo 15 (zpure (.if_icmp .ne 5) 38 40 [] ls st h)) ∧
  (∀ (ls : zL) (st : zS) (h : zH), zx 15 38 ls st h = zgo 15 (zpure (.iconst 0) 39 0 [] ls st h)) ∧
  (∀ (ls : zL) (st : zS) (h : zH), zx 15 39 ls st h = zret 0 st h) ∧
  (∀ (ls : zL) (st : zS) (h : zH), zx 15 40 ls st h = zgo 15 (zpure (.aload_n 0) 41 0 [] ls st h)) ∧
  (∀ (ls : zL) (st : zS) (h : zH), zx 15 41 ls st h = zgo 15 (zpure (.iload_n 1) 42 0 [] ls st h)) ∧
  (∀ (ls : zL) (st : zS) (h : zH), zx 15 42 ls st h = zca 15 42 45 ls 18 7 3 (ztake 2 st) h) ∧
  (∀ (ls : zL) (st : zS) (h : zH), zx 15 45 ls st h = zgo 15 (zpure (.iconst 0) 46 0 [] ls st h)) ∧
  (∀ (ls : zL) (st : zS) (h : zH), zx 15 46 ls st h = zgo 15 (zpure (.istore_n 3) 47 0 [] ls st h)) ∧
  (∀ (ls : zL) (st : zS) (h : zH), zx 15 47 ls st h = zgo 15 (zpure (.fconst 0) 48 0 [] ls st h)) ∧
  (∀ (ls : zL) (st : zS) (h : zH), zx 15 48 ls st h = zgo 15 (zpure (.fstore 4) 50 0 [] ls st h)) ∧
  (∀ (ls : zL) (st : zS) (h : zH), zx 15 50 ls st h = zgo 15 (zpure (.iconst 0) 51 0 [] ls st h)) ∧
  (∀ (ls : zL) (st : zS) (h : zH), zx 15 51 ls st h = zgo 15 (zpure (.istore 5) 53 0 [] ls st h)) ∧
  (∀ (ls : zL) (st : zS) (h : zH), zx 15 55 ls st h = zgo 15 (zpure (.aload_n 0) 56 0 [] ls st h)) ∧
  (∀ (ls : zL) (st : zS) (h : zH), zx 15 56 ls st h = zgo 15 (zpure (.getfield 46) 59 0 [2, 10] ls st h)) ∧
  (∀ (ls : zL) (st : zS) (h : zH), zx 15 59 ls st h = zgo 15 (zpure (.if_icmp .ge 55) 62 114 [] ls st h)) ∧
  (∀ (ls : zL) (st : zS) (h : zH), zx 15 62 ls st h = zgo 15 (zpure (.iload 5) 64 0 [] ls st h)) ∧
  (∀ (ls : zL) (st : zS) (h : zH), zx 15 64 ls st h = zgo 15 (zpure (.bipush 70) 66 0 [] ls st h)) ∧
  (∀ (ls : zL) (st : zS) (h : zH), zx 15 66 ls st h = zgo 15 (zpure (.if_icmp .ge 48) 69 114 [] ls st h)) ∧
  (∀ (ls : zL) (st : zS) (h : zH), zx 15 69 ls st h = zgo 15 (zpure (.aload_n 0) 70 0 [] ls st h)) ∧
  (∀ (ls : zL) (st : zS) (h : zH), zx 15 70 ls st h = zgo 15 (zpure (.aload_n 0) 71 0 [] ls st h)) ∧
  (∀ (ls : zL) (st : zS) (h : zH), zx 15 71 ls st h = zgo 15 (zpure (.getfield 34) 74 0 [2, 6] ls st h)) ∧
  (∀ (ls : zL) (st : zS) (h : zH), zx 15 74 ls st h = zgo 15 (zpure (.iload 5) 76 0 [] ls st h)) ∧
  (∀ (ls : zL) (st : zS) (h : zH), zx 15 76 ls st h = zgo 15 (zpure .iaload 77 0 [] ls st h)) ∧
  (∀ (ls : zL) (st : zS) (h : zH), zx 15 77 ls st h = zgo 15 (zpure (.iload_n 1) 78 0 [] ls st h)) ∧
  (∀ (ls : zL) (st : zS) (h : zH), zx 15 78 ls st h = zgo 15 (zpure (.iload_n 2) 79 0 [] ls st h)) ∧
  (∀ (ls : zL) (st : zS) (h : zH), zx 15 79 ls st h = zca 15 79 82 ls 14 6 3 (ztake 4 st) h) ∧
  (∀ (ls : zL) (st : zS) (h : zH), zx 15 82 ls st h = zgo 15 (zpure (.fstore 6) 84 0 [] ls st h)) ∧
  (∀ (ls : zL) (st : zS) (h : zH), zx 15 84 ls st h = zgo 15 (zpure (.iload_n 3) 85 0 [] ls st h)) ∧
  (∀ (ls : zL) (st : zS) (h : zH), zx 15 85 ls st h = zgo 15 (zpure (.ifCond .eq 11) 88 96 [] ls st h)) ∧
  (∀ (ls : zL) (st : zS) (h : zH), zx 15 88 ls st h = zgo 15 (zpure (.fload 6) 90 0 [] ls st h)) ∧
  (∀ (ls : zL) (st : zS) (h : zH), zx 15 90 ls st h = zgo 15 (zpure (.fload 4) 92 0 [] ls st h)) ∧
  (∀ (ls : zL) (st : zS) (h : zH), zx 15 92 ls st h = zgo 15 (zpure (.fcmp .g) 93 0 [] ls st h)) ∧
  (∀ (ls : zL) (st : zS) (h : zH), zx 15 93 ls st h = zgo 15 (zpure (.ifCond .ge 15) 96 108 [] ls st h)) ∧
  (∀ (ls : zL) (st : zS) (h : zH), zx 15 96 ls st h = zgo 15 (zpure (.aload_n 0) 97 0 [] ls st h)) ∧
  (∀ (ls : zL) (st : zS) (h : zH), zx 15 97 ls st h = zgo 15 (zpure (.getfield 34) 100 0 [2, 6] ls st h)) ∧
  (∀ (ls : zL) (st : zS) (h : zH), zx 15 100 ls st h = zgo 15 (zpure (.iload 5) 102 0 [] ls st h)) ∧
  (∀ (ls : zL) (st : zS) (h : zH), zx 15 102 ls st h = zgo 15 (zpure .iaload 103 0 [] ls st h)) ∧
  (∀ (ls : zL) (st : zS) (h : zH), zx 15 103 ls st h = zgo 15 (zpure (.istore_n 3) 104 0 [] ls st h)) ∧
  (∀ (ls : zL) (st : zS) (h : zH), zx 15 104 ls st h = zgo 15 (zpure (.fload 6) 106 0 [] ls st h)) ∧
  (∀ (ls : zL) (st : zS) (h : zH), zx 15 106 ls st h = zgo 15 (zpure (.fstore 4) 108 0 [] ls st h)) ∧
  (∀ (ls : zL) (st : zS) (h : zH), zx 15 108 ls st h = zgo 15 (zpure (.iinc 5 1) 111 0 [] ls st h)) ∧
  (∀ (ls : zL) (st : zS) (h : zH), zx 15 111 ls st h = zgo 15 (zpure (.goto (-58)) 114 53 [] ls st h)) ∧
  (∀ (ls : zL) (st : zS) (h : zH), zx 15 114 ls st h = zgo 15 (zpure (.iload_n 3) 115 0 [] ls st h)) ∧
  (∀ (ls : zL) (st : zS) (h : zH), zx 15 115 ls st h = zret 0 st h) :=
  ⟨zx_0 rfl, zx_0 rfl, zx_0 rfl, zx_0 rfl, zx_0 rfl, zx_0 rfl, zx_0 rfl, zx_1 rfl, zx_0 rfl, zx_0 rfl, zx_0 rfl, zx_0 rfl, zx_2c rfl, zx_0 rfl, zx_0 rfl, zx_0 rfl, zx_0 rfl, zx_0 rfl, zx_0 rfl, zx_0 rfl, zx_0 rfl, zx_0 rfl, zx_1 rfl, zx_0 rfl, zx_0 rfl, zx_2c rfl, zx_0 rfl, zx_0 rfl, zx_0 rfl, zx_0 rfl, zx_0 rfl, zx_0 rfl, zx_0 rfl, zx_0 rfl, zx_0 rfl, zx_0 rfl, zx_0 rfl, zx_0 rfl, zx_0 rfl, zx_0 rfl, zx_0 rfl, zx_0 rfl, zx_0 rfl, zx_0 rfl, zx_0 rfl, zx_2c rfl, zx_0 rfl, zx_0 rfl, zx_0 rfl, zx_0 rfl, zx_0 rfl, zx_0 rfl, zx_0 rfl, zx_0 rfl, zx_0 rfl, zx_0 rfl, zx_0 rfl, zx_0 rfl, zx_0 rfl, zx_0 rfl, zx_0 rfl, zx_0 rfl, zx_0 rfl, zx_1 rfl⟩
theorem z16_3 : ∀ (ls : zL) (st : zS) (h : zH), zx 16 3 ls st h = zgo 16 (zpure (.iload_n 1) 4 0 [] ls st h) := zx_0 rfl
/-- X2_addUp -/
theorem z16 :
  (∀ (ls : zL) (st : zS) (h : zH), zx 16 0 ls st h = zgo 16 (zpure (.bipush 8) 2 0 [] ls st h)) ∧
  (∀ (ls : zL) (st : zS) (h : zH), zx 16 2 ls st h = zgo 16 (zpure (.istore_n 1) 3 0 [] ls st h)) ∧
  (∀ (ls : zL) (st : zS) (h : zH), zx 16 4 ls st h = zgo 16 (zpure (.ifCond .lt 50) 7 54 [] ls st h)) ∧
  (∀ (ls : zL) (st : zS) (h : zH), zx 16 7 ls st h = zgo 16 (zpure (.iload_n 1) 8 0 [] ls st h)) ∧
  (∀ (ls : zL) (st : zS) (h : zH), zx 16 8 ls st h = zgo 16 (zpure (.aload_n 0) 9 0 [] ls st h)) ∧
  (∀ (ls : zL) (st : zS) (h : zH), zx 16 9 ls st h = zgo 16 (zpure (.getfield 21) 12 0 [2, 3] ls st h)) ∧
  (∀ (ls : zL) (st : zS) (h : zH), zx 16 12 ls st h = zgo 16 (zpure (.if_icmp .lt 26) 15 38 [] ls st h)) ∧
  (∀ (ls : zL) (st : zS) (h : zH), zx 16 15 ls st h = zgo 16 (zpure (.aload_n 0) 16 0 [] ls st h)) ∧
  (∀ (ls : zL) (st : zS) (h : zH), zx 16 16 ls st h = zgo 16 (zpure (.getfield 27) 19 0 [2, 4] ls st h)) ∧
  (∀ (ls : zL) (st : zS) (h : zH), zx 16 19 ls st h = zgo 16 (zpure (.iload_n 1) 20 0 [] ls st h)) ∧
  (∀ (ls : zL) (st : zS) (h : zH), zx 16 20 ls st h = zgo 16 (zpure .aaload 21 0 [] ls st h)) ∧
  (∀ (ls : zL) (st : zS) (h : zH), zx 16 21 ls st h = zgo 16 (zpure (.bipush 9) 23 0 [] ls st h)) ∧
  (∀ (ls : zL) (st : zS) (h : zH), zx 16 23 ls st h = zca 16 23 26 ls 181 4 0 (ztake 2 st) h) ∧
  (∀ (ls : zL) (st : zS) (h : zH), zx 16 26 ls st h = zgo 16 (zpure (.aload_n 0) 27 0 [] ls st h)) ∧
  (∀ (ls : zL) (st : zS) (h : zH), zx 16 27 ls st h = zgo 16 (zpure (.getfield 27) 30 0 [2, 4] ls st h)) ∧
  (∀ (ls : zL) (st : zS) (h : zH), zx 16 30 ls st h = zgo 16 (zpure (.iload_n 1) 31 0 [] ls st h)) ∧
  (∀ (ls : zL) (st : zS) (h : zH), zx 16 31 ls st h = zgo 16 (zpure .aaload 32 0 [] ls st h)) ∧
  (∀ (ls : zL) (st : zS) (h : zH), zx 16 32 ls st h = zgo 16 (zpure (.iconst 0) 33 0 [] ls st h)) ∧
  (∀ (ls : zL) (st : zS) (h : zH), zx 16 33 ls st h = zgo 16 (zpure (.iconst 0) 34 0 [] ls st h)) ∧
  (∀ (ls : zL) (st : zS) (h : zH), zx 16 34 ls st h = zgo 16 (zpure .bastore 35 0 [] ls st h)) ∧
  (∀ (ls : zL) (st : zS) (h : zH), zx 16 35 ls st h = zgo 16 (zpure (.goto 13) 38 48 [] ls st h)) ∧
  (∀ (ls : zL) (st : zS) (h : zH), zx 16 38 ls st h = zgo 16 (zpure (.aload_n 0) 39 0 [] ls st h)) ∧
  (∀ (ls : zL) (st : zS) (h : zH), zx 16 39 ls st h = zgo 16 (zpure (.iload_n 1) 40 0 [] ls st h)) ∧
  (∀ (ls : zL) (st : zS) (h : zH), zx 16 40 ls st h = zgo 16 (zpure (.aload_n 0) 41 0 [] ls st h)) ∧
  (∀ (ls : zL) (st : zS) (h : zH), zx 16 41 ls st h = zgo 16 (zpure (.iload_n 1) 42 0 [] ls st h)) ∧
  (∀ (ls : zL) (st : zS) (h : zH), zx 16 42 ls st h = zca 16 42 45 ls 12 2 3 (ztake 2 st) h) ∧
  (∀ (ls : zL) (st : zS) (h : zH), zx 16 45 ls st h = zca 16 45 48 ls 17 5 3 (ztake 3 st) h) ∧
  (∀ (ls : zL) (st : zS) (h : zH), zx 16 48 ls st h = zgo 16 (zpure (.iinc 1 (-1)) 51 0 [] ls st h)) ∧
  (∀ (ls : zL) (st : zS) (h : zH), zx 16 51 ls st h = zgo 16 (zpure (.goto (-48)) 54 3 [] ls st h)) ∧
  (∀ (ls : zL) (st : zS) (h : zH), zx 16 54 ls st h = zgo 16 (zpure (.aload_n 0) 55 0 [] ls st h)) ∧
  (∀ (ls : zL) (st : zS) (h : zH), zx 16 55 ls st h = zgo 16 (zpure (.iconst 1) 56 0 [] ls st h)) ∧
  (∀ (ls : zL) (st : zS) (h : zH), zx 16 56 ls st h = zgo 16 (zpure (.putfield 30) 59 0 [2, 5, 1] ls st h)) ∧
  (∀ (ls : zL) (st : zS) (h : zH), zx 16 59 ls st h = zret 8 st h) :=
  ⟨zx_0 rfl, zx_0 rfl, zx_0 rfl, zx_0 rfl, zx_0 rfl, zx_0 rfl, zx_0 rfl, zx_0 rfl, zx_0 rfl, zx_0 rfl, zx_0 rfl, zx_0 rfl, zx_2c rfl, zx_0 rfl, zx_0 rfl, zx_0 rfl, zx_0 rfl, zx_0 rfl, zx_0 rfl, zx_0 rfl, zx_0 rfl, zx_0 rfl, zx_0 rfl, zx_0 rfl, zx_0 rfl, zx_2c rfl, zx_2c rfl, zx_0 rfl, zx_0 rfl, zx_0 rfl, zx_0 rfl, zx_0 rfl, zx_1 rfl⟩
theorem z17_17 : ∀ (ls : zL) (st : zS) (h : zH), zx 17 17 ls st h = zgo 17 (zpure (.iload_n 3) 18 0 [] ls st h) := zx_0 rfl
/-- X2_addPieceToSums -/
theorem z17 :
  (∀ (ls : zL) (st : zS) (h : zH), zx 17 0 ls st h = zgo 17 (zpure (.iload_n 1) 1 0 [] ls st h)) ∧
  (∀ (ls : zL) (st : zS) (h : zH), zx 17 1 ls st h = zgo 17 (zpure (.ifCond .lt 13) 4 14 [] ls st h)) ∧
  (∀ (ls : zL) (st : zS) (h : zH), zx 17 4 ls st h = zgo 17 (zpure (.iload_n 1) 5 0 [] ls st h)) ∧
  (∀ (ls : zL) (st : zS) (h : zH), zx 17 5 ls st h = zgo 17 (zpure (.bipush 8) 7 0 [] ls st h)) ∧
  (∀ (ls : zL) (st : zS) (h : zH), zx 17 7 ls st h = zgo 17 (zpure (.if_icmp .ge 7) 10 14 [] ls st h)) ∧
  (∀ (ls : zL) (st : zS) (h : zH), zx 17 10 ls st h = zgo 17 (zpure (.iload_n 2) 11 0 [] ls st h)) ∧
  (∀ (ls : zL) (st : zS) (h : zH), zx 17 11 ls st h = zgo 17 (zpure (.ifCond .ge 4) 14 15 [] ls st h)) ∧
  (∀ (ls : zL) (st : zS) (h : zH), zx 17 14 ls st h = zret 8 st h) ∧
  (∀ (ls : zL) (st : zS) (h : zH), zx 17 15 ls st h = zgo 17 (zpure (.iconst 0) 16 0 [] ls st h)) ∧
  (∀ (ls : zL) (st : zS) (h : zH), zx 17 16 ls st h = zgo 17 (zpure (.istore_n 3) 17 0 [] ls st h)) ∧
  (∀ (ls : zL) (st : zS) (h : zH), zx 17 18 ls st h = zgo 17 (zpure (.sipush 3600) 21 0 [] ls st h)) ∧
  (∀ (ls : zL) (st : zS) (h : zH), zx 17 21 ls st h = zgo 17 (zpure (.if_icmp .gt 72) 24 93 [] ls st h)) ∧
  (∀ (ls : zL) (st : zS) (h : zH), zx 17 24 ls st h = zgo 17 (zpure (.aload_n 0) 25 0 [] ls st h)) ∧
  (∀ (ls : zL) (st : zS) (h : zH), zx 17 25 ls st h = zgo 17 (zpure (.getfield 27) 28 0 [2, 4] ls st h)) ∧
  (∀ (ls : zL) (st : zS) (h : zH), zx 17 28 ls st h = zgo 17 (zpure (.iload_n 1) 29 0 [] ls st h)) ∧
  (∀ (ls : zL) (st : zS) (h : zH), zx 17 29 ls st h = zgo 17 (zpure (.iconst 1) 30 0 [] ls st h)) ∧
  (∀ (ls : zL) (st : zS) (h : zH), zx 17 30 ls st h = zgo 17 (zpure .iadd 31 0 [] ls st h)) ∧
  (∀ (ls : zL) (st : zS) (h : zH), zx 17 31 ls st h = zgo 17 (zpure .aaload 32 0 [] ls st h)) ∧
  (∀ (ls : zL) (st : zS) (h : zH), zx 17 32 ls st h = zgo 17 (zpure (.iload_n 3) 33 0 [] ls st h)) ∧
  (∀ (ls : zL) (st : zS) (h : zH), zx 17 33 ls st h = zgo 17 (zpure .baload 34 0 [] ls st h)) ∧
  (∀ (ls : zL) (st : zS) (h : zH), zx 17 34 ls st h = zgo 17 (zpure (.istore 4) 36 0 [] ls st h)) ∧
  (∀ (ls : zL) (st : zS) (h : zH), zx 17 36 ls st h = zgo 17 (zpure (.iload_n 3) 37 0 [] ls st h)) ∧
  (∀ (ls : zL) (st : zS) (h : zH), zx 17 37 ls st h = zgo 17 (zpure (.iload_n 2) 38 0 [] ls st h)) ∧
  (∀ (ls : zL) (st : zS) (h : zH), zx 17 38 ls st h = zgo 17 (zpure (.if_icmp .lt 39) 41 77 [] ls st h)) ∧
  (∀ (ls : zL) (st : zS) (h : zH), zx 17 41 ls st h = zgo 17 (zpure (.aload_n 0) 42 0 [] ls st h)) ∧
  (∀ (ls : zL) (st : zS) (h : zH), zx 17 42 ls st h = zgo 17 (zpure (.getfield 27) 45 0 [2, 4] ls st h)) ∧
  (∀ (ls : zL) (st : zS) (h : zH), zx 17 45 ls st h = zgo 17 (zpure (.iload_n 1) 46 0 [] ls st h)) ∧
  (∀ (ls : zL) (st : zS) (h : zH), zx 17 46 ls st h = zgo 17 (zpure (.iconst 1) 47 0 [] ls st h)) ∧
  (∀ (ls : zL) (st : zS) (h : zH), zx 17 47 ls st h = zgo 17 (zpure .iadd 48 0 [] ls st h)) ∧
  (∀ (ls : zL) (st : zS) (h : zH), zx 17 48 ls st h = zgo 17 (zpure .aaload 49 0 [] ls st h)) ∧
  (∀ (ls : zL) (st : zS) (h : zH), zx 17 49 ls st h = zgo 17 (zpure (.iload_n 3) 50 0 [] ls st h)) ∧
  (∀ (ls : zL) (st : zS) (h : zH), zx 17 50 ls st h = zgo 17 (zpure (.iload_n 2) 51 0 [] ls st h)) ∧
  (∀ (ls : zL) (st : zS) (h : zH), zx 17 51 ls st h = zgo 17 (zpure .isub 52 0 [] ls st h)) ∧
  (∀ (ls : zL) (st : zS) (h : zH), zx 17 52 ls st h = zgo 17 (zpure .baload 53 0 [] ls st h)) ∧
  (∀ (ls : zL) (st : zS) (h : zH), zx 17 53 ls st h = zgo 17 (zpure (.iconst 1) 54 0 [] ls st h)) ∧
  (∀ (ls : zL) (st : zS) (h : zH), zx 17 54 ls st h = zgo 17 (zpure .iadd 55 0 [] ls st h)) ∧
  (∀ (ls : zL) (st : zS) (h : zH), zx 17 55 ls st h = zgo 17 (zpure (.iload 4) 57 0 [] ls st h)) ∧
  (∀ (ls : zL) (st : zS) (h : zH), zx 17 57 ls st h = zgo 17 (zpure (.if_icmp .ge 20) 60 77 [] ls st h)) ∧
  (∀ (ls : zL) (st : zS) (h : zH), zx 17 60 ls st h = zgo 17 (zpure (.aload_n 0) 61 0 [] ls st h)) ∧
  (∀ (ls : zL) (st : zS) (h : zH), zx 17 61 ls st h = zgo 17 (zpure (.getfield 27) 64 0 [2, 4] ls st h)) ∧
  (∀ (ls : zL) (st : zS) (h : zH), zx 17 64 ls st h = zgo 17 (zpure (.iload_n 1) 65 0 [] ls st h)) ∧
  (∀ (ls : zL) (st : zS) (h : zH), zx 17 65 ls st h = zgo 17 (zpure (.iconst 1) 66 0 [] ls st h)) ∧
  (∀ (ls : zL) (st : zS) (h : zH), zx 17 66 ls st h = zgo 17 (zpure .iadd 67 0 [] ls st h)) ∧
  (∀ (ls : zL) (st : zS) (h : zH), zx 17 67 ls st h = zgo 17 (zpure .aaload 68 0 [] ls st h)) ∧
  (∀ (ls : zL) (st : zS) (h : zH), zx 17 68 ls st h = zgo 17 (zpure (.iload_n 3) 69 0 [] ls st h)) ∧
  (∀ (ls : zL) (st : zS) (h : zH), zx 17 69 ls st h = zgo 17 (zpure (.iload_n 2) 70 0 [] ls st h)) ∧
  (∀ (ls : zL) (st : zS) (h : zH), zx 17 70 ls st h = zgo 17 (zpure .isub 71 0 [] ls st h)) ∧
  (∀ (ls : zL) (st : zS) (h : zH), zx 17 71 ls st h = zgo 17 (zpure .baload 72 0 [] ls st h)) ∧
  (∀ (ls : zL) (st : zS) (h : zH), zx 17 72 ls st h = zgo 17 (zpure (.iconst 1) 73 0 [] ls st h)) ∧
  (∀ (ls : zL) (st : zS) (h : zH), zx 17 73 ls st h = zgo 17 (zpure .iadd 74 0 [] ls st h)) ∧
  (∀ (ls : zL) (st : zS) (h : zH), zx 17 74 ls st h = zgo 17 (zpure .i2b 75 0 [] ls st h)) ∧
  (∀ (ls : zL) (st : zS) (h : zH), zx 17 75 ls st h = zgo 17 (zpure (.istore 4) 77 0 [] ls st h)) ∧
  (∀ (ls : zL) (st : zS) (h : zH), zx 17 77 ls st h = zgo 17 (zpure (.aload_n 0) 78 0 [] ls st h)) ∧
  (∀ (ls : zL) (st : zS) (h : zH), zx 17 78 ls st h = zgo 17 (zpure (.getfield 27) 81 0 [2, 4] ls st h)) ∧
  (∀ (ls : zL) (st : zS) (h : zH), zx 17 81 ls st h = zgo 17 (zpure (.iload_n 1) 82 0 [] ls st h)) ∧
  (∀ (ls : zL) (st : zS) (h : zH), zx 17 82 ls st h = zgo 17 (zpure .aaload 83 0 [] ls st h)) ∧
  (∀ (ls : zL) (st : zS) (h : zH), zx 17 83 ls st h = zgo 17 (zpure (.iload_n 3) 84 0 [] ls st h)) ∧
  (∀ (ls : zL) (st : zS) (h : zH), zx 17 84 ls st h = zgo 17 (zpure (.iload 4) 86 0 [] ls st h)) ∧
  (∀ (ls : zL) (st : zS) (h : zH), zx 17 86 ls st h = zgo 17 (zpure .bastore 87 0 [] ls st h)) ∧
  (∀ (ls : zL) (st : zS) (h : zH), zx 17 87 ls st h = zgo 17 (zpure (.iinc 3 1) 90 0 [] ls st h)) ∧
  (∀ (ls : zL) (st : zS) (h : zH), zx 17 90 ls st h = zgo 17 (zpure (.goto (-73)) 93 17 [] ls st h)) ∧
  (∀ (ls : zL) (st : zS) (h : zH), zx 17 93 ls st h = zret 8 st h) :=
  ⟨zx_0 rfl, zx_0 rfl, zx_0 rfl, zx_0 rfl, zx_0 rfl, zx_0 rfl, zx_0 rfl, zx_1 rfl, zx_0 rfl, zx_0 rfl, zx_0 rfl, zx_0 rfl, zx_0 rfl, zx_0 rfl, zx_0 rfl, zx_0 rfl, zx_0 rfl, zx_0 rfl, zx_0 rfl, zx_0 rfl, zx_0 rfl, zx_0 rfl, zx_0 rfl, zx_0 rfl, zx_0 rfl, zx_0 rfl, zx_0 rfl, zx_0 rfl, zx_0 rfl, zx_0 rfl, zx_0 rfl, zx_0 rfl, zx_0 rfl, zx_0 rfl, zx_0 rfl, zx_0 rfl, zx_0 rfl, zx_0 rfl, zx_0 rfl, zx_0 rfl, zx_0 rfl, zx_0 rfl, zx_0 rfl, zx_0 rfl, zx_0 rfl, zx_0 rfl, zx_0 rfl, zx_0 rfl, zx_0 rfl, zx_0 rfl, zx_0 rfl, zx_0 rfl, zx_0 rfl, zx_0 rfl, zx_0 rfl, zx_0 rfl, zx_0 rfl, zx_0 rfl, zx_0 rfl, zx_0 rfl, zx_0 rfl, zx_1 rfl⟩
theorem z18_21 : ∀ (ls : zL) (st : zS) (h : zH), zx 18 21 ls st h = zgo 18 (zpure (.iload_n 2) 22 0 [] ls st h) := zx_0 rfl
theorem z18_48 : ∀ (ls : zL) (st : zS) (h : zH), zx 18 48 ls st h = zgo 18 (zpure (.iload 4) 50 0 [] ls st h) := zx_0 rfl
/-- X2_collectChoices -/
theorem z18 :
  (∀ (ls : zL) (st : zS) (h : zH), zx 18 0 ls st h = zgo 18 (zpure (.aload_n 0) 1 0 [] ls st h)) ∧
  (∀ (ls : zL) (st : zS) (h : zH), zx 18 1 ls st h = zgo 18 (zpure (.getfield 34) 4 0 [2, 6] ls st h)) ∧
  (∀ (ls : zL) (st : zS) (h : zH), zx 18 4 ls st h = zgo 18 (zpure (.iconst 0) 5 0 [] ls st h)) ∧
  (∀ (ls : zL) (st : zS) (h : zH), zx 18 5 ls st h = zgo 18 (zpure (.iconst 0) 6 0 [] ls st h)) ∧
  (∀ (ls : zL) (st : zS) (h : zH), zx 18 6 ls st h = zgo 18 (zpure .iastore 7 0 [] ls st h)) ∧
  (∀ (ls : zL) (st : zS) (h : zH), zx 18 7 ls st h = zgo 18 (zpure (.aload_n 0) 8 0 [] ls st h)) ∧
  (∀ (ls : zL) (st : zS) (h : zH), zx 18 8 ls st h = zgo 18 (zpure (.getfield 37) 11 0 [2, 7] ls st h)) ∧
  (∀ (ls : zL) (st : zS) (h : zH), zx 18 11 ls st h = zgo 18 (zpure (.iconst 0) 12 0 [] ls st h)) ∧
  (∀ (ls : zL) (st : zS) (h : zH), zx 18 12 ls st h = zgo 18 (zpure (.iload_n 1) 13 0 [] ls st h)) ∧
  (∀ (ls : zL) (st : zS) (h : zH), zx 18 13 ls st h = zgo 18 (zpure .iastore 14 0 [] ls st h)) ∧
  (∀ (ls : zL) (st : zS) (h : zH), zx 18 14 ls st h = zgo 18 (zpure (.aload_n 0) 15 0 [] ls st h)) ∧
  (∀ (ls : zL) (st : zS) (h : zH), zx 18 15 ls st h = zgo 18 (zpure (.iconst 1) 16 0 [] ls st h)) ∧
  (∀ (ls : zL) (st : zS) (h : zH), zx 18 16 ls st h = zgo 18 (zpure (.putfield 46) 19 0 [2, 10, 0] ls st h)) ∧
  (∀ (ls : zL) (st : zS) (h : zH), zx 18 19 ls st h = zgo 18 (zpure (.iconst 0) 20 0 [] ls st h)) ∧
  (∀ (ls : zL) (st : zS) (h : zH), zx 18 20 ls st h = zgo 18 (zpure (.istore_n 2) 21 0 [] ls st h)) ∧
  (∀ (ls : zL) (st : zS) (h : zH), zx 18 22 ls st h = zgo 18 (zpure (.aload_n 0) 23 0 [] ls st h)) ∧
  (∀ (ls : zL) (st : zS) (h : zH), zx 18 23 ls st h = zgo 18 (zpure (.getfield 21) 26 0 [2, 3] ls st h)) ∧
  (∀ (ls : zL) (st : zS) (h : zH), zx 18 26 ls st h = zgo 18 (zpure (.if_icmp .ge 144) 29 170 [] ls st h)) ∧
  (∀ (ls : zL) (st : zS) (h : zH), zx 18 29 ls st h = zgo 18 (zpure (.iload_n 2) 30 0 [] ls st h)) ∧
  (∀ (ls : zL) (st : zS) (h : zH), zx 18 30 ls st h = zgo 18 (zpure (.bipush 8) 32 0 [] ls st h)) ∧
  (∀ (ls : zL) (st : zS) (h : zH), zx 18 32 ls st h = zgo 18 (zpure (.if_icmp .ge 138) 35 170 [] ls st h)) ∧
  (∀ (ls : zL) (st : zS) (h : zH), zx 18 35 ls st h = zgo 18 (zpure (.aload_n 0) 36 0 [] ls st h)) ∧
  (∀ (ls : zL) (st : zS) (h : zH), zx 18 36 ls st h = zgo 18 (zpure (.getfield 46) 39 0 [2, 10] ls st h)) ∧
  (∀ (ls : zL) (st : zS) (h : zH), zx 18 39 ls st h = zgo 18 (zpure (.istore_n 3) 40 0 [] ls st h)) ∧
  (∀ (ls : zL) (st : zS) (h : zH), zx 18 40 ls st h = zgo 18 (zpure (.aload_n 0) 41 0 [] ls st h)) ∧
  (∀ (ls : zL) (st : zS) (h : zH), zx 18 41 ls st h = zgo 18 (zpure (.iconst 0) 42 0 [] ls st h)) ∧
  (∀ (ls : zL) (st : zS) (h : zH), zx 18 42 ls st h = zgo 18 (zpure (.putfield 46) 45 0 [2, 10, 0] ls st h)) ∧
  (∀ (ls : zL) (st : zS) (h : zH), zx 18 45 ls st h = zgo 18 (zpure (.iconst 0) 46 0 [] ls st h)) ∧
  (∀ (ls : zL) (st : zS) (h : zH), zx 18 46 ls st h = zgo 18 (zpure (.istore 4) 48 0 [] ls st h)) ∧
  (∀ (ls : zL) (st : zS) (h : zH), zx 18 50 ls st h = zgo 18 (zpure (.iload_n 3) 51 0 [] ls st h)) ∧
  (∀ (ls : zL) (st : zS) (h : zH), zx 18 51 ls st h = zgo 18 (zpure (.if_icmp .ge 109) 54 160 [] ls st h)) ∧
  (∀ (ls : zL) (st : zS) (h : zH), zx 18 54 ls st h = zgo 18 (zpure (.iload 4) 56 0 [] ls st h)) ∧
  (∀ (ls : zL) (st : zS) (h : zH), zx 18 56 ls st h = zgo 18 (zpure (.bipush 70) 58 0 [] ls st h)) ∧
  (∀ (ls : zL) (st : zS) (h : zH), zx 18 58 ls st h = zgo 18 (zpure (.if_icmp .ge 102) 61 160 [] ls st h)) ∧
  (∀ (ls : zL) (st : zS) (h : zH), zx 18 61 ls st h = zgo 18 (zpure (.aload_n 0) 62 0 [] ls st h)) ∧
  (∀ (ls : zL) (st : zS) (h : zH), zx 18 62 ls st h = zgo 18 (zpure (.getfield 37) 65 0 [2, 7] ls st h)) ∧
  (∀ (ls : zL) (st : zS) (h : zH), zx 18 65 ls st h = zgo 18 (zpure (.iload 4) 67 0 [] ls st h)) ∧
  (∀ (ls : zL) (st : zS) (h : zH), zx 18 67 ls st h = zgo 18 (zpure .iaload 68 0 [] ls st h)) ∧
  (∀ (ls : zL) (st : zS) (h : zH), zx 18 68 ls st h = zgo 18 (zpure (.istore 5) 70 0 [] ls st h)) ∧
  (∀ (ls : zL) (st : zS) (h : zH), zx 18 70 ls st h = zgo 18 (zpure (.aload_n 0) 71 0 [] ls st h)) ∧
  (∀ (ls : zL) (st : zS) (h : zH), zx 18 71 ls st h = zgo 18 (zpure (.iload_n 2) 72 0 [] ls st h)) ∧
  (∀ (ls : zL) (st : zS) (h : zH), zx 18 72 ls st h = zgo 18 (zpure (.iload 5) 74 0 [] ls st h)) ∧
  (∀ (ls : zL) (st : zS) (h : zH), zx 18 74 ls st h = zca 18 74 77 ls 21 3 3 (ztake 3 st) h) ∧
  (∀ (ls : zL) (st : zS) (h : zH), zx 18 77 ls st h = zgo 18 (zpure (.istore 6) 79 0 [] ls st h)) ∧
  (∀ (ls : zL) (st : zS) (h : zH), zx 18 79 ls st h = zgo 18 (zpure (.aload_n 0) 80 0 [] ls st h)) ∧
  (∀ (ls : zL) (st : zS) (h : zH), zx 18 80 ls st h = zgo 18 (zpure (.iload_n 2) 81 0 [] ls st h)) ∧
  (∀ (ls : zL) (st : zS) (h : zH), zx 18 81 ls st h = zgo 18 (zpure (.iconst 1) 82 0 [] ls st h)) ∧
  (∀ (ls : zL) (st : zS) (h : zH), zx 18 82 ls st h = zgo 18 (zpure .iadd 83 0 [] ls st h)) ∧
  (∀ (ls : zL) (st : zS) (h : zH), zx 18 83 ls st h = zgo 18 (zpure (.iload 5) 85 0 [] ls st h)) ∧
  (∀ (ls : zL) (st : zS) (h : zH), zx 18 85 ls st h = zgo 18 (zpure (.aload_n 0) 86 0 [] ls st h)) ∧
  (∀ (ls : zL) (st : zS) (h : zH), zx 18 86 ls st h = zgo 18 (zpure (.iload_n 2) 87 0 [] ls st h)) ∧
  (∀ (ls : zL) (st : zS) (h : zH), zx 18 87 ls st h = zca 18 87 90 ls 12 2 3 (ztake 2 st) h) ∧
  (∀ (ls : zL) (st : zS) (h : zH), zx 18 90 ls st h = zgo 18 (zpure .isub 91 0 [] ls st h)) ∧
  (∀ (ls : zL) (st : zS) (h : zH), zx 18 91 ls st h = zca 18 91 94 ls 21 3 3 (ztake 3 st) h) ∧
  (∀ (ls : zL) (st : zS) (h : zH), zx 18 94 ls st h = zgo 18 (zpure (.iload 6) 96 0 [] ls st h)) ∧
  (∀ (ls : zL) (st : zS) (h : zH), zx 18 96 ls st h = zgo 18 (zpure (.iconst 1) 97 0 [] ls st h)) ∧
  (∀ (ls : zL) (st : zS) (h : zH), zx 18 97 ls st h = zgo 18 (zpure .isub 98 0 [] ls st h)) ∧
  (∀ (ls : zL) (st : zS) (h : zH), zx 18 98 ls st h = zgo 18 (zpure (.if_icmp .ne 29) 101 127 [] ls st h)) ∧
  (∀ (ls : zL) (st : zS) (h : zH), zx 18 101 ls st h = zgo 18 (zpure (.aload_n 0) 102 0 [] ls st h)) ∧
  (∀ (ls : zL) (st : zS) (h : zH), zx 18 102 ls st h = zgo 18 (zpure (.aload_n 0) 103 0 [] ls st h)) ∧
  (∀ (ls : zL) (st : zS) (h : zH), zx 18 103 ls st h = zgo 18 (zpure (.getfield 34) 106 0 [2, 6] ls st h)) ∧
  (∀ (ls : zL) (st : zS) (h : zH), zx 18 106 ls st h = zgo 18 (zpure (.iload 4) 108 0 [] ls st h)) ∧
  (∀ (ls : zL) (st : zS) (h : zH), zx 18 108 ls st h = zgo 18 (zpure .iaload 109 0 [] ls st h)) ∧
  (∀ (ls : zL) (st : zS) (h : zH), zx 18 109 ls st h = zgo 18 (zpure (.iconst 1) 110 0 [] ls st h)) ∧
  (∀ (ls : zL) (st : zS) (h : zH), zx 18 110 ls st h = zgo 18 (zpure (.bipush 7) 112 0 [] ls st h)) ∧
  (∀ (ls : zL) (st : zS) (h : zH), zx 18 112 ls st h = zgo 18 (zpure (.iload_n 2) 113 0 [] ls st h)) ∧
  (∀ (ls : zL) (st : zS) (h : zH), zx 18 113 ls st h = zgo 18 (zpure .isub 114 0 [] ls st h)) ∧
  (∀ (ls : zL) (st : zS) (h : zH), zx 18 114 ls st h = zgo 18 (zpure .ishl 115 0 [] ls st h)) ∧
  (∀ (ls : zL) (st : zS) (h : zH), zx 18 115 ls st h = zgo 18 (zpure .ior 116 0 [] ls st h)) ∧
  (∀ (ls : zL) (st : zS) (h : zH), zx 18 116 ls st h = zgo 18 (zpure (.iload 5) 118 0 [] ls st h)) ∧
  (∀ (ls : zL) (st : zS) (h : zH), zx 18 118 ls st h = zgo 18 (zpure (.aload_n 0) 119 0 [] ls st h)) ∧
  (∀ (ls : zL) (st : zS) (h : zH), zx 18 119 ls st h = zgo 18 (zpure (.iload_n 2) 120 0 [] ls st h)) ∧
  (∀ (ls : zL) (st : zS) (h : zH), zx 18 120 ls st h = zca 18 120 123 ls 12 2 3 (ztake 2 st) h) ∧
  (∀ (ls : zL) (st : zS) (h : zH), zx 18 123 ls st h = zgo 18 (zpure .isub 124 0 [] ls st h)) ∧
  (∀ (ls : zL) (st : zS) (h : zH), zx 18 124 ls st h = zca 18 124 127 ls 19 3 3 (ztake 3 st) h) ∧
  (∀ (ls : zL) (st : zS) (h : zH), zx 18 127 ls st h = zgo 18 (zpure (.aload_n 0) 128 0 [] ls st h)) ∧
  (∀ (ls : zL) (st : zS) (h : zH), zx 18 128 ls st h = zgo 18 (zpure (.iload_n 2) 129 0 [] ls st h)) ∧
  (∀ (ls : zL) (st : zS) (h : zH), zx 18 129 ls st h = zgo 18 (zpure (.iconst 1) 130 0 [] ls st h)) ∧
  (∀ (ls : zL) (st : zS) (h : zH), zx 18 130 ls st h = zgo 18 (zpure .iadd 131 0 [] ls st h)) ∧
  (∀ (ls : zL) (st : zS) (h : zH), zx 18 131 ls st h = zgo 18 (zpure (.iload 5) 133 0 [] ls st h)) ∧
  (∀ (ls : zL) (st : zS) (h : zH), zx 18 133 ls st h = zca 18 133 136 ls 21 3 3 (ztake 3 st) h) ∧
  (∀ (ls : zL) (st : zS) (h : zH), zx 18 136 ls st h = zgo 18 (zpure (.iload 6) 138 0 [] ls st h)) ∧
  (∀ (ls : zL) (st : zS) (h : zH), zx 18 138 ls st h = zgo 18 (zpure (.if_icmp .ne 16) 141 154 [] ls st h)) ∧
  (∀ (ls : zL) (st : zS) (h : zH), zx 18 141 ls st h = zgo 18 (zpure (.aload_n 0) 142 0 [] ls st h)) ∧
  (∀ (ls : zL) (st : zS) (h : zH), zx 18 142 ls st h = zgo 18 (zpure (.aload_n 0) 143 0 [] ls st h)) ∧
  (∀ (ls : zL) (st : zS) (h : zH), zx 18 143 ls st h = zgo 18 (zpure (.getfield 34) 146 0 [2, 6] ls st h)) ∧
  (∀ (ls : zL) (st : zS) (h : zH), zx 18 146 ls st h = zgo 18 (zpure (.iload 4) 148 0 [] ls st h)) ∧
  (∀ (ls : zL) (st : zS) (h : zH), zx 18 148 ls st h = zgo 18 (zpure .iaload 149 0 [] ls st h)) ∧
  (∀ (ls : zL) (st : zS) (h : zH), zx 18 149 ls st h = zgo 18 (zpure (.iload 5) 151 0 [] ls st h)) ∧
  (∀ (ls : zL) (st : zS) (h : zH), zx 18 151 ls st h = zca 18 151 154 ls 19 3 3 (ztake 3 st) h) ∧
  (∀ (ls : zL) (st : zS) (h : zH), zx 18 154 ls st h = zgo 18 (zpure (.iinc 4 1) 157 0 [] ls st h)) ∧
  (∀ (ls : zL) (st : zS) (h : zH), zx 18 157 ls st h = zgo 18 (zpure (.goto (-109)) 160 48 [] ls st h)) ∧
  (∀ (ls : zL) (st : zS) (h : zH), zx 18 160 ls st h = zgo 18 (zpure (.aload_n 0) 161 0 [] ls st h)) ∧
  (∀ (ls : zL) (st : zS) (h : zH), zx 18 161 ls st h = zca 18 161 164 ls 20 2 3 (ztake 1 st) h) ∧
  (∀ (ls : zL) (st : zS) (h : zH), zx 18 164 ls st h = zgo 18 (zpure (.iinc 2 1) 167 0 [] ls st h)) ∧
  (∀ (ls : zL) (st : zS) (h : zH), zx 18 167 ls st h = zgo 18 (zpure (.goto (-146)) 170 21 [] ls st h)) ∧
  (∀ (ls : zL) (st : zS) (h : zH), zx 18 170 ls st h = zret 8 st h) :=
  ⟨zx_0 rfl, zx_0 rfl, zx_0 rfl, zx_0 rfl, zx_0 rfl, zx_0 rfl, zx_0 rfl, zx_0 rfl, zx_0 rfl, zx_0 rfl, zx_0 rfl, zx_0 rfl, zx_0 rfl, zx_0 rfl, zx_0 rfl, zx_0 rfl, zx_0 rfl, zx_0 rfl, zx_0 rfl, zx_0 rfl, zx_0 rfl, zx_0 rfl, zx_0 rfl, zx_0 rfl, zx_0 rfl, zx_0 rfl, zx_0 rfl, zx_0 rfl, zx_0 rfl, zx_0 rfl, zx_0 rfl, zx_0 rfl, zx_0 rfl, zx_0 rfl, zx_0 rfl, zx_0 rfl, zx_0 rfl, zx_0 rfl, zx_0 rfl, zx_0 rfl, zx_0 rfl, zx_0 rfl, zx_2c rfl, zx_0 rfl, zx_0 rfl, zx_0 rfl, zx_0 rfl, zx_0 rfl, zx_0 rfl, zx_0 rfl, zx_0 rfl, zx_2c rfl, zx_0 rfl, zx_2c rfl, zx_0 rfl, zx_0 rfl, zx_0 rfl, zx_0 rfl, zx_0 rfl, zx_0 rfl, zx_0 rfl, zx_0 rfl, zx_0 rfl, zx_0 rfl, zx_0 rfl, zx_0 rfl, zx_0 rfl, zx_0 rfl, zx_0 rfl, zx_0 rfl, zx_0 rfl, zx_0 rfl, zx_2c rfl, zx_0 rfl, zx_2c rfl, zx_0 rfl, zx_0 rfl, zx_0 rfl, zx_0 rfl, zx_0 rfl, zx_2c rfl, zx_0 rfl, zx_0 rfl, zx_0 rfl, zx_0 rfl, zx_0 rfl, zx_0 rfl, zx_0 rfl, zx_0 rfl, zx_2c rfl, zx_0 rfl, zx_0 rfl, zx_0 rfl, zx_2c rfl, zx_0 rfl, zx_0 rfl, zx_1 rfl⟩
/-- X2_keepLonger -/
theorem z19 :
  (∀ (ls : zL) (st : zS) (h : zH), zx 19 0 ls st h = zgo 19 (zpure (.aload_n 0) 1 0 [] ls st h)) ∧
  (∀ (ls : zL) (st : zS) (h : zH), zx 19 1 ls st h = zgo 19 (zpure (.getfield 46) 4 0 [2, 10] ls st h)) ∧
  (∀ (ls : zL) (st : zS) (h : zH), zx 19 4 ls st h = zgo 19 (zpure (.ifCond .lt 42) 7 46 [] ls st h)) ∧
  (∀ (ls : zL) (st : zS) (h : zH), zx 19 7 ls st h = zgo 19 (zpure (.aload_n 0) 8 0 [] ls st h)) ∧
  (∀ (ls : zL) (st : zS) (h : zH), zx 19 8 ls st h = zgo 19 (zpure (.getfield 46) 11 0 [2, 10] ls st h)) ∧
  (∀ (ls : zL) (st : zS) (h : zH), zx 19 11 ls st h = zgo 19 (zpure (.bipush 70) 13 0 [] ls st h)) ∧
  (∀ (ls : zL) (st : zS) (h : zH), zx 19 13 ls st h = zgo 19 (zpure (.if_icmp .ge 33) 16 46 [] ls st h)) ∧
  (∀ (ls : zL) (st : zS) (h : zH), zx 19 16 ls st h = zgo 19 (zpure (.aload_n 0) 17 0 [] ls st h)) ∧
  (∀ (ls : zL) (st : zS) (h : zH), zx 19 17 ls st h = zgo 19 (zpure (.getfield 40) 20 0 [2, 8] ls st h)) ∧
  (∀ (ls : zL) (st : zS) (h : zH), zx 19 20 ls st h = zgo 19 (zpure (.aload_n 0) 21 0 [] ls st h)) ∧
  (∀ (ls : zL) (st : zS) (h : zH), zx 19 21 ls st h = zgo 19 (zpure (.getfield 46) 24 0 [2, 10] ls st h)) ∧
  (∀ (ls : zL) (st : zS) (h : zH), zx 19 24 ls st h = zgo 19 (zpure (.iload_n 1) 25 0 [] ls st h)) ∧
  (∀ (ls : zL) (st : zS) (h : zH), zx 19 25 ls st h = zgo 19 (zpure .iastore 26 0 [] ls st h)) ∧
  (∀ (ls : zL) (st : zS) (h : zH), zx 19 26 ls st h = zgo 19 (zpure (.aload_n 0) 27 0 [] ls st h)) ∧
  (∀ (ls : zL) (st : zS) (h : zH), zx 19 27 ls st h = zgo 19 (zpure (.getfield 43) 30 0 [2, 9] ls st h)) ∧
  (∀ (ls : zL) (st : zS) (h : zH), zx 19 30 ls st h = zgo 19 (zpure (.aload_n 0) 31 0 [] ls st h)) ∧
  (∀ (ls : zL) (st : zS) (h : zH), zx 19 31 ls st h = zgo 19 (zpure (.getfield 46) 34 0 [2, 10] ls st h)) ∧
  (∀ (ls : zL) (st : zS) (h : zH), zx 19 34 ls st h = zgo 19 (zpure (.iload_n 2) 35 0 [] ls st h)) ∧
  (∀ (ls : zL) (st : zS) (h : zH), zx 19 35 ls st h = zgo 19 (zpure .iastore 36 0 [] ls st h)) ∧
  (∀ (ls : zL) (st : zS) (h : zH), zx 19 36 ls st h = zgo 19 (zpure (.aload_n 0) 37 0 [] ls st h)) ∧
  (∀ (ls : zL) (st : zS) (h : zH), zx 19 37 ls st h = zgo 19 (zpure .dup 38 0 [] ls st h)) ∧
  (∀ (ls : zL) (st : zS) (h : zH), zx 19 38 ls st h = zgo 19 (zpure (.getfield 46) 41 0 [2, 10] ls st h)) ∧
  (∀ (ls : zL) (st : zS) (h : zH), zx 19 41 ls st h = zgo 19 (zpure (.iconst 1) 42 0 [] ls st h)) ∧
  (∀ (ls : zL) (st : zS) (h : zH), zx 19 42 ls st h = zgo 19 (zpure .iadd 43 0 [] ls st h)) ∧
  (∀ (ls : zL) (st : zS) (h : zH), zx 19 43 ls st h = zgo 19 (zpure (.putfield 46) 46 0 [2, 10, 0] ls st h)) ∧
  (∀ (ls : zL) (st : zS) (h : zH), zx 19 46 ls st h = zret 8 st h) :=
  ⟨zx_0 rfl, zx_0 rfl, zx_0 rfl, zx_0 rfl, zx_0 rfl, zx_0 rfl, zx_0 rfl, zx_0 rfl, zx_0 rfl, zx_0 rfl, zx_0 rfl, zx_0 rfl, zx_0 rfl, zx_0 rfl, zx_0 rfl, zx_0 rfl, zx_0 rfl, zx_0 rfl, zx_0 rfl, zx_0 rfl, zx_0 rfl, zx_0 rfl, zx_0 rfl, zx_0 rfl, zx_0 rfl, zx_1 rfl⟩
theorem z20_2 : ∀ (ls : zL) (st : zS) (h : zH), zx 20 2 ls st h = zgo 20 (zpure (.iload_n 1) 3 0 [] ls st h) := zx_0 rfl
/-- X2_takeLonger -/
theorem z20 :
  (∀ (ls : zL) (st : zS) (h : zH), zx 20 0 ls st h = zgo 20 (zpure (.iconst 0) 1 0 [] ls st h)) ∧
  (∀ (ls : zL) (st : zS) (h : zH), zx 20 1 ls st h = zgo 20 (zpure (.istore_n 1) 2 0 [] ls st h)) ∧
  (∀ (ls : zL) (st : zS) (h : zH), zx 20 3 ls st h = zgo 20 (zpure (.aload_n 0) 4 0 [] ls st h)) ∧
  (∀ (ls : zL) (st : zS) (h : zH), zx 20 4 ls st h = zgo 20 (zpure (.getfield 46) 7 0 [2, 10] ls st h)) ∧
  (∀ (ls : zL) (st : zS) (h : zH), zx 20 7 ls st h = zgo 20 (zpure (.if_icmp .ge 39) 10 46 [] ls st h)) ∧
  (∀ (ls : zL) (st : zS) (h : zH), zx 20 10 ls st h = zgo 20 (zpure (.iload_n 1) 11 0 [] ls st h)) ∧
  (∀ (ls : zL) (st : zS) (h : zH), zx 20 11 ls st h = zgo 20 (zpure (.bipush 70) 13 0 [] ls st h)) ∧
  (∀ (ls : zL) (st : zS) (h : zH), zx 20 13 ls st h = zgo 20 (zpure (.if_icmp .ge 33) 16 46 [] ls st h)) ∧
  (∀ (ls : zL) (st : zS) (h : zH), zx 20 16 ls st h = zgo 20 (zpure (.aload_n 0) 17 0 [] ls st h)) ∧
  (∀ (ls : zL) (st : zS) (h : zH), zx 20 17 ls st h = zgo 20 (zpure (.getfield 34) 20 0 [2, 6] ls st h)) ∧
  (∀ (ls : zL) (st : zS) (h : zH), zx 20 20 ls st h = zgo 20 (zpure (.iload_n 1) 21 0 [] ls st h)) ∧
  (∀ (ls : zL) (st : zS) (h : zH), zx 20 21 ls st h = zgo 20 (zpure (.aload_n 0) 22 0 [] ls st h)) ∧
  (∀ (ls : zL) (st : zS) (h : zH), zx 20 22 ls st h = zgo 20 (zpure (.getfield 40) 25 0 [2, 8] ls st h)) ∧
  (∀ (ls : zL) (st : zS) (h : zH), zx 20 25 ls st h = zgo 20 (zpure (.iload_n 1) 26 0 [] ls st h)) ∧
  (∀ (ls : zL) (st : zS) (h : zH), zx 20 26 ls st h = zgo 20 (zpure .iaload 27 0 [] ls st h)) ∧
  (∀ (ls : zL) (st : zS) (h : zH), zx 20 27 ls st h = zgo 20 (zpure .iastore 28 0 [] ls st h)) ∧
  (∀ (ls : zL) (st : zS) (h : zH), zx 20 28 ls st h = zgo 20 (zpure (.aload_n 0) 29 0 [] ls st h)) ∧
  (∀ (ls : zL) (st : zS) (h : zH), zx 20 29 ls st h = zgo 20 (zpure (.getfield 37) 32 0 [2, 7] ls st h)) ∧
  (∀ (ls : zL) (st : zS) (h : zH), zx 20 32 ls st h = zgo 20 (zpure (.iload_n 1) 33 0 [] ls st h)) ∧
  (∀ (ls : zL) (st : zS) (h : zH), zx 20 33 ls st h = zgo 20 (zpure (.aload_n 0) 34 0 [] ls st h)) ∧
  (∀ (ls : zL) (st : zS) (h : zH), zx 20 34 ls st h = zgo 20 (zpure (.getfield 43) 37 0 [2, 9] ls st h)) ∧
  (∀ (ls : zL) (st : zS) (h : zH), zx 20 37 ls st h = zgo 20 (zpure (.iload_n 1) 38 0 [] ls st h)) ∧
  (∀ (ls : zL) (st : zS) (h : zH), zx 20 38 ls st h = zgo 20 (zpure .iaload 39 0 [] ls st h)) ∧
  (∀ (ls : zL) (st : zS) (h : zH), zx 20 39 ls st h = zgo 20 (zpure .iastore 40 0 [] ls st h)) ∧
  (∀ (ls : zL) (st : zS) (h : zH), zx 20 40 ls st h = zgo 20 (zpure (.iinc 1 1) 43 0 [] ls st h)) ∧
  (∀ (ls : zL) (st : zS) (h : zH), zx 20 43 ls st h = zgo 20 (zpure (.goto (-41)) 46 2 [] ls st h)) ∧
  (∀ (ls : zL) (st : zS) (h : zH), zx 20 46 ls st h = zret 8 st h) :=
  ⟨zx_0 rfl, zx_0 rfl, zx_0 rfl, zx_0 rfl, zx_0 rfl, zx_0 rfl, zx_0 rfl, zx_0 rfl, zx_0 rfl, zx_0 rfl, zx_0 rfl, zx_0 rfl, zx_0 rfl, zx_0 rfl, zx_0 rfl, zx_0 rfl, zx_0 rfl, zx_0 rfl, zx_0 rfl, zx_0 rfl, zx_0 rfl, zx_0 rfl, zx_0 rfl, zx_0 rfl, zx_0 rfl, zx_0 rfl, zx_1 rfl⟩
/-- X2_fewestFor -/
theorem z21 :
  (∀ (ls : zL) (st : zS) (h : zH), zx 21 0 ls st h = zgo 21 (zpure (.iload_n 1) 1 0 [] ls st h)) ∧
  (∀ (ls : zL) (st : zS) (h : zH), zx 21 1 ls st h = zgo 21 (zpure (.ifCond .lt 20) 4 21 [] ls st h)) ∧
  (∀ (ls : zL) (st : zS) (h : zH), zx 21 4 ls st h = zgo 21 (zpure (.iload_n 1) 5 0 [] ls st h)) ∧
  (∀ (ls : zL) (st : zS) (h : zH), zx 21 5 ls st h = zgo 21 (zpure (.bipush 8) 7 0 [] ls st h)) ∧
  (∀ (ls : zL) (st : zS) (h : zH), zx 21 7 ls st h = zgo 21 (zpure (.if_icmp .gt 14) 10 21 [] ls st h)) ∧
  (∀ (ls : zL) (st : zS) (h : zH), zx 21 10 ls st h = zgo 21 (zpure (.iload_n 2) 11 0 [] ls st h)) ∧
  (∀ (ls : zL) (st : zS) (h : zH), zx 21 11 ls st h = zgo 21 (zpure (.ifCond .lt 10) 14 21 [] ls st h)) ∧
  (∀ (ls : zL) (st : zS) (h : zH), zx 21 14 ls st h = zgo 21 (zpure (.iload_n 2) 15 0 [] ls st h)) ∧
  (∀ (ls : zL) (st : zS) (h : zH), zx 21 15 ls st h = zgo 21 (zpure (.sipush 3600) 18 0 [] ls st h)) ∧
  (∀ (ls : zL) (st : zS) (h : zH), zx 21 18 ls st h = zgo 21 (zpure (.if_icmp .le 6) 21 24 [] ls st h)) ∧
  (∀ (ls : zL) (st : zS) (h : zH), zx 21 21 ls st h = zgo 21 (zpure (.bipush 9) 23 0 [] ls st h)) ∧
  (∀ (ls : zL) (st : zS) (h : zH), zx 21 23 ls st h = zret 0 st h) ∧
  (∀ (ls : zL) (st : zS) (h : zH), zx 21 24 ls st h = zgo 21 (zpure (.aload_n 0) 25 0 [] ls st h)) ∧
  (∀ (ls : zL) (st : zS) (h : zH), zx 21 25 ls st h = zgo 21 (zpure (.getfield 27) 28 0 [2, 4] ls st h)) ∧
  (∀ (ls : zL) (st : zS) (h : zH), zx 21 28 ls st h = zgo 21 (zpure (.iload_n 1) 29 0 [] ls st h)) ∧
  (∀ (ls : zL) (st : zS) (h : zH), zx 21 29 ls st h = zgo 21 (zpure .aaload 30 0 [] ls st h)) ∧
  (∀ (ls : zL) (st : zS) (h : zH), zx 21 30 ls st h = zgo 21 (zpure (.iload_n 2) 31 0 [] ls st h)) ∧
  (∀ (ls : zL) (st : zS) (h : zH), zx 21 31 ls st h = zgo 21 (zpure .baload 32 0 [] ls st h)) ∧
  (∀ (ls : zL) (st : zS) (h : zH), zx 21 32 ls st h = zret 0 st h) :=
  ⟨zx_0 rfl, zx_0 rfl, zx_0 rfl, zx_0 rfl, zx_0 rfl, zx_0 rfl, zx_0 rfl, zx_0 rfl, zx_0 rfl, zx_0 rfl, zx_0 rfl, zx_1 rfl, zx_0 rfl, zx_0 rfl, zx_0 rfl, zx_0 rfl, zx_0 rfl, zx_0 rfl, zx_1 rfl⟩
theorem z22_4 : ∀ (ls : zL) (st : zS) (h : zH), zx 22 4 ls st h = zgo 22 (zpure (.iload_n 3) 5 0 [] ls st h) := zx_0 rfl
/-- X2_secondsIn -/
theorem z22 :
  (∀ (ls : zL) (st : zS) (h : zH), zx 22 0 ls st h = zgo 22 (zpure (.iconst 0) 1 0 [] ls st h)) ∧
  (∀ (ls : zL) (st : zS) (h : zH), zx 22 1 ls st h = zgo 22 (zpure (.istore_n 2) 2 0 [] ls st h)) ∧
  (∀ (ls : zL) (st : zS) (h : zH), zx 22 2 ls st h = zgo 22 (zpure (.iconst 0) 3 0 [] ls st h)) ∧
  (∀ (ls : zL) (st : zS) (h : zH), zx 22 3 ls st h = zgo 22 (zpure (.istore_n 3) 4 0 [] ls st h)) ∧
  (∀ (ls : zL) (st : zS) (h : zH), zx 22 5 ls st h = zgo 22 (zpure (.aload_n 0) 6 0 [] ls st h)) ∧
  (∀ (ls : zL) (st : zS) (h : zH), zx 22 6 ls st h = zgo 22 (zpure (.getfield 21) 9 0 [2, 3] ls st h)) ∧
  (∀ (ls : zL) (st : zS) (h : zH), zx 22 9 ls st h = zgo 22 (zpure (.if_icmp .ge 26) 12 35 [] ls st h)) ∧
  (∀ (ls : zL) (st : zS) (h : zH), zx 22 12 ls st h = zgo 22 (zpure (.aload_n 0) 13 0 [] ls st h)) ∧
  (∀ (ls : zL) (st : zS) (h : zH), zx 22 13 ls st h = zgo 22 (zpure (.iload_n 1) 14 0 [] ls st h)) ∧
  (∀ (ls : zL) (st : zS) (h : zH), zx 22 14 ls st h = zgo 22 (zpure (.iload_n 3) 15 0 [] ls st h)) ∧
  (∀ (ls : zL) (st : zS) (h : zH), zx 22 15 ls st h = zca 22 15 18 ls 10 3 3 (ztake 3 st) h) ∧
  (∀ (ls : zL) (st : zS) (h : zH), zx 22 18 ls st h = zgo 22 (zpure (.ifCond .eq 11) 21 29 [] ls st h)) ∧
  (∀ (ls : zL) (st : zS) (h : zH), zx 22 21 ls st h = zgo 22 (zpure (.iload_n 2) 22 0 [] ls st h)) ∧
  (∀ (ls : zL) (st : zS) (h : zH), zx 22 22 ls st h = zgo 22 (zpure (.aload_n 0) 23 0 [] ls st h)) ∧
  (∀ (ls : zL) (st : zS) (h : zH), zx 22 23 ls st h = zgo 22 (zpure (.iload_n 3) 24 0 [] ls st h)) ∧
  (∀ (ls : zL) (st : zS) (h : zH), zx 22 24 ls st h = zca 22 24 27 ls 12 2 3 (ztake 2 st) h) ∧
  (∀ (ls : zL) (st : zS) (h : zH), zx 22 27 ls st h = zgo 22 (zpure .iadd 28 0 [] ls st h)) ∧
  (∀ (ls : zL) (st : zS) (h : zH), zx 22 28 ls st h = zgo 22 (zpure (.istore_n 2) 29 0 [] ls st h)) ∧
  (∀ (ls : zL) (st : zS) (h : zH), zx 22 29 ls st h = zgo 22 (zpure (.iinc 3 1) 32 0 [] ls st h)) ∧
  (∀ (ls : zL) (st : zS) (h : zH), zx 22 32 ls st h = zgo 22 (zpure (.goto (-28)) 35 4 [] ls st h)) ∧
  (∀ (ls : zL) (st : zS) (h : zH), zx 22 35 ls st h = zgo 22 (zpure (.iload_n 2) 36 0 [] ls st h)) ∧
  (∀ (ls : zL) (st : zS) (h : zH), zx 22 36 ls st h = zret 0 st h) :=
  ⟨zx_0 rfl, zx_0 rfl, zx_0 rfl, zx_0 rfl, zx_0 rfl, zx_0 rfl, zx_0 rfl, zx_0 rfl, zx_0 rfl, zx_0 rfl, zx_2c rfl, zx_0 rfl, zx_0 rfl, zx_0 rfl, zx_0 rfl, zx_2c rfl, zx_0 rfl, zx_0 rfl, zx_0 rfl, zx_0 rfl, zx_0 rfl, zx_1 rfl⟩
theorem z23_4 : ∀ (ls : zL) (st : zS) (h : zH), zx 23 4 ls st h = zgo 23 (zpure (.iload_n 3) 5 0 [] ls st h) := zx_0 rfl
/-- X2_fewestByTrying -/
theorem z23 :
  (∀ (ls : zL) (st : zS) (h : zH), zx 23 0 ls st h = zgo 23 (zpure (.iconst 0) 1 0 [] ls st h)) ∧
  (∀ (ls : zL) (st : zS) (h : zH), zx 23 1 ls st h = zgo 23 (zpure (.istore_n 2) 2 0 [] ls st h)) ∧
  (∀ (ls : zL) (st : zS) (h : zH), zx 23 2 ls st h = zgo 23 (zpure (.iconst 1) 3 0 [] ls st h)) ∧
  (∀ (ls : zL) (st : zS) (h : zH), zx 23 3 ls st h = zgo 23 (zpure (.istore_n 3) 4 0 [] ls st h)) ∧
  (∀ (ls : zL) (st : zS) (h : zH), zx 23 5 ls st h = zgo 23 (zpure (.iconst 1) 6 0 [] ls st h)) ∧
  (∀ (ls : zL) (st : zS) (h : zH), zx 23 6 ls st h = zgo 23 (zpure (.aload_n 0) 7 0 [] ls st h)) ∧
  (∀ (ls : zL) (st : zS) (h : zH), zx 23 7 ls st h = zgo 23 (zpure (.getfield 21) 10 0 [2, 3] ls st h)) ∧
  (∀ (ls : zL) (st : zS) (h : zH), zx 23 10 ls st h = zgo 23 (zpure .ishl 11 0 [] ls st h)) ∧
  (∀ (ls : zL) (st : zS) (h : zH), zx 23 11 ls st h = zgo 23 (zpure (.if_icmp .ge 50) 14 61 [] ls st h)) ∧
  (∀ (ls : zL) (st : zS) (h : zH), zx 23 14 ls st h = zgo 23 (zpure (.iload_n 3) 15 0 [] ls st h)) ∧
  (∀ (ls : zL) (st : zS) (h : zH), zx 23 15 ls st h = zgo 23 (zpure (.bipush 8) 17 0 [] ls st h)) ∧
  (∀ (ls : zL) (st : zS) (h : zH), zx 23 17 ls st h = zgo 23 (zpure (.aload_n 0) 18 0 [] ls st h)) ∧
  (∀ (ls : zL) (st : zS) (h : zH), zx 23 18 ls st h = zgo 23 (zpure (.getfield 21) 21 0 [2, 3] ls st h)) ∧
  (∀ (ls : zL) (st : zS) (h : zH), zx 23 21 ls st h = zgo 23 (zpure .isub 22 0 [] ls st h)) ∧
  (∀ (ls : zL) (st : zS) (h : zH), zx 23 22 ls st h = zgo 23 (zpure .ishl 23 0 [] ls st h)) ∧
  (∀ (ls : zL) (st : zS) (h : zH), zx 23 23 ls st h = zgo 23 (zpure (.istore 4) 25 0 [] ls st h)) ∧
  (∀ (ls : zL) (st : zS) (h : zH), zx 23 25 ls st h = zgo 23 (zpure (.iload 4) 27 0 [] ls st h)) ∧
  (∀ (ls : zL) (st : zS) (h : zH), zx 23 27 ls st h = zca 23 27 30 ls 182 1 0 (ztake 1 st) h) ∧
  (∀ (ls : zL) (st : zS) (h : zH), zx 23 30 ls st h = zgo 23 (zpure (.istore 5) 32 0 [] ls st h)) ∧
  (∀ (ls : zL) (st : zS) (h : zH), zx 23 32 ls st h = zgo 23 (zpure (.aload_n 0) 33 0 [] ls st h)) ∧
  (∀ (ls : zL) (st : zS) (h : zH), zx 23 33 ls st h = zgo 23 (zpure (.iload 4) 35 0 [] ls st h)) ∧
  (∀ (ls : zL) (st : zS) (h : zH), zx 23 35 ls st h = zca 23 35 38 ls 22 4 3 (ztake 2 st) h) ∧
  (∀ (ls : zL) (st : zS) (h : zH), zx 23 38 ls st h = zgo 23 (zpure (.iload_n 1) 39 0 [] ls st h)) ∧
  (∀ (ls : zL) (st : zS) (h : zH), zx 23 39 ls st h = zgo 23 (zpure (.if_icmp .ne 16) 42 55 [] ls st h)) ∧
  (∀ (ls : zL) (st : zS) (h : zH), zx 23 42 ls st h = zgo 23 (zpure (.iload_n 2) 43 0 [] ls st h)) ∧
  (∀ (ls : zL) (st : zS) (h : zH), zx 23 43 ls st h = zgo 23 (zpure (.ifCond .eq 9) 46 52 [] ls st h)) ∧
  (∀ (ls : zL) (st : zS) (h : zH), zx 23 46 ls st h = zgo 23 (zpure (.iload 5) 48 0 [] ls st h)) ∧
  (∀ (ls : zL) (st : zS) (h : zH), zx 23 48 ls st h = zgo 23 (zpure (.iload_n 2) 49 0 [] ls st h)) ∧
  (∀ (ls : zL) (st : zS) (h : zH), zx 23 49 ls st h = zgo 23 (zpure (.if_icmp .ge 6) 52 55 [] ls st h)) ∧
  (∀ (ls : zL) (st : zS) (h : zH), zx 23 52 ls st h = zgo 23 (zpure (.iload 5) 54 0 [] ls st h)) ∧
  (∀ (ls : zL) (st : zS) (h : zH), zx 23 54 ls st h = zgo 23 (zpure (.istore_n 2) 55 0 [] ls st h)) ∧
  (∀ (ls : zL) (st : zS) (h : zH), zx 23 55 ls st h = zgo 23 (zpure (.iinc 3 1) 58 0 [] ls st h)) ∧
  (∀ (ls : zL) (st : zS) (h : zH), zx 23 58 ls st h = zgo 23 (zpure (.goto (-54)) 61 4 [] ls st h)) ∧
  (∀ (ls : zL) (st : zS) (h : zH), zx 23 61 ls st h = zgo 23 (zpure (.iload_n 2) 62 0 [] ls st h)) ∧
  (∀ (ls : zL) (st : zS) (h : zH), zx 23 62 ls st h = zret 0 st h) :=
  ⟨zx_0 rfl, zx_0 rfl, zx_0 rfl, zx_0 rfl, zx_0 rfl, zx_0 rfl, zx_0 rfl, zx_0 rfl, zx_0 rfl, zx_0 rfl, zx_0 rfl, zx_0 rfl, zx_0 rfl, zx_0 rfl, zx_0 rfl, zx_0 rfl, zx_0 rfl, zx_2c rfl, zx_0 rfl, zx_0 rfl, zx_0 rfl, zx_2c rfl, zx_0 rfl, zx_0 rfl, zx_0 rfl, zx_0 rfl, zx_0 rfl, zx_0 rfl, zx_0 rfl, zx_0 rfl, zx_0 rfl, zx_0 rfl, zx_0 rfl, zx_0 rfl, zx_1 rfl⟩
/-- X3_init -/
theorem z24 :
  (∀ (ls : zL) (st : zS) (h : zH), zx 24 0 ls st h = zgo 24 (zpure (.aload_n 0) 1 0 [] ls st h)) ∧
  (∀ (ls : zL) (st : zS) (h : zH), zx 24 1 ls st h = zgo 24 (zpure (.invokespecial 3) 4 0 [] ls st h)) ∧
  (∀ (ls : zL) (st : zS) (h : zH), zx 24 4 ls st h = zgo 24 (zpure (.aload_n 0) 5 0 [] ls st h)) ∧
  (∀ (ls : zL) (st : zS) (h : zH), zx 24 5 ls st h = zgo 24 (zpure (.iload_n 1) 6 0 [] ls st h)) ∧
  (∀ (ls : zL) (st : zS) (h : zH), zx 24 6 ls st h = zgo 24 (zpure (.putfield 9) 9 0 [3, 0, 3] ls st h)) ∧
  (∀ (ls : zL) (st : zS) (h : zH), zx 24 9 ls st h = zgo 24 (zpure (.aload_n 0) 10 0 [] ls st h)) ∧
  (∀ (ls : zL) (st : zS) (h : zH), zx 24 10 ls st h = zgo 24 (zpure (.iload_n 2) 11 0 [] ls st h)) ∧
  (∀ (ls : zL) (st : zS) (h : zH), zx 24 11 ls st h = zgo 24 (zpure (.putfield 15) 14 0 [3, 1, 0] ls st h)) ∧
  (∀ (ls : zL) (st : zS) (h : zH), zx 24 14 ls st h = zgo 24 (zpure (.aload_n 0) 15 0 [] ls st h)) ∧
  (∀ (ls : zL) (st : zS) (h : zH), zx 24 15 ls st h = zgo 24 (zpure (.iload_n 3) 16 0 [] ls st h)) ∧
  (∀ (ls : zL) (st : zS) (h : zH), zx 24 16 ls st h = zgo 24 (zpure (.putfield 19) 19 0 [3, 2, 0] ls st h)) ∧
  (∀ (ls : zL) (st : zS) (h : zH), zx 24 19 ls st h = zret 8 st h) :=
  ⟨zx_0 rfl, zx_0 rfl, zx_0 rfl, zx_0 rfl, zx_0 rfl, zx_0 rfl, zx_0 rfl, zx_0 rfl, zx_0 rfl, zx_0 rfl, zx_0 rfl, zx_1 rfl⟩
/-- X3_showsFrom -/
theorem z25 :
  (∀ (ls : zL) (st : zS) (h : zH), zx 25 0 ls st h = zgo 25 (zpure (.aload_n 0) 1 0 [] ls st h)) ∧
  (∀ (ls : zL) (st : zS) (h : zH), zx 25 1 ls st h = zgo 25 (zpure (.iload_n 1) 2 0 [] ls st h)) ∧
  (∀ (ls : zL) (st : zS) (h : zH), zx 25 2 ls st h = zgo 25 (zpure (.iload_n 2) 3 0 [] ls st h)) ∧
  (∀ (ls : zL) (st : zS) (h : zH), zx 25 3 ls st h = zca 25 3 6 ls 27 3 4 (ztake 3 st) h) ∧
  (∀ (ls : zL) (st : zS) (h : zH), zx 25 6 ls st h = zgo 25 (zpure (.iload_n 1) 7 0 [] ls st h)) ∧
  (∀ (ls : zL) (st : zS) (h : zH), zx 25 7 ls st h = zgo 25 (zpure (.invokestatic 26) 10 0 [1] ls st h)) ∧
  (∀ (ls : zL) (st : zS) (h : zH), zx 25 10 ls st h = zret 0 st h) :=
  ⟨zx_0 rfl, zx_0 rfl, zx_0 rfl, zx_2c rfl, zx_0 rfl, zx_0 rfl, zx_1 rfl⟩
/-- X3_showsUntil -/
theorem z26 :
  (∀ (ls : zL) (st : zS) (h : zH), zx 26 0 ls st h = zgo 26 (zpure (.aload_n 0) 1 0 [] ls st h)) ∧
  (∀ (ls : zL) (st : zS) (h : zH), zx 26 1 ls st h = zgo 26 (zpure (.iload_n 1) 2 0 [] ls st h)) ∧
  (∀ (ls : zL) (st : zS) (h : zH), zx 26 2 ls st h = zgo 26 (zpure (.iload_n 2) 3 0 [] ls st h)) ∧
  (∀ (ls : zL) (st : zS) (h : zH), zx 26 3 ls st h = zca 26 3 6 ls 27 3 4 (ztake 3 st) h) ∧
  (∀ (ls : zL) (st : zS) (h : zH), zx 26 6 ls st h = zgo 26 (zpure (.aload_n 0) 7 0 [] ls st h)) ∧
  (∀ (ls : zL) (st : zS) (h : zH), zx 26 7 ls st h = zgo 26 (zpure (.getfield 19) 10 0 [3, 2] ls st h)) ∧
  (∀ (ls : zL) (st : zS) (h : zH), zx 26 10 ls st h = zgo 26 (zpure .iadd 11 0 [] ls st h)) ∧
  (∀ (ls : zL) (st : zS) (h : zH), zx 26 11 ls st h = zgo 26 (zpure (.iload_n 2) 12 0 [] ls st h)) ∧
  (∀ (ls : zL) (st : zS) (h : zH), zx 26 12 ls st h = zgo 26 (zpure (.invokestatic 31) 15 0 [2] ls st h)) ∧
  (∀ (ls : zL) (st : zS) (h : zH), zx 26 15 ls st h = zret 0 st h) :=
  ⟨zx_0 rfl, zx_0 rfl, zx_0 rfl, zx_2c rfl, zx_0 rfl, zx_0 rfl, zx_0 rfl, zx_0 rfl, zx_0 rfl, zx_1 rfl⟩
/-- X3_uncutStart -/
theorem z27 :
  (∀ (ls : zL) (st : zS) (h : zH), zx 27 0 ls st h = zgo 27 (zpure (.aload_n 0) 1 0 [] ls st h)) ∧
  (∀ (ls : zL) (st : zS) (h : zH), zx 27 1 ls st h = zgo 27 (zpure (.getfield 9) 4 0 [3, 0] ls st h)) ∧
  (∀ (ls : zL) (st : zS) (h : zH), zx 27 4 ls st h = zgo 27 (zpure (.bipush 115) 6 0 [] ls st h)) ∧
  (∀ (ls : zL) (st : zS) (h : zH), zx 27 6 ls st h = zgo 27 (zpure (.if_icmp .ne 12) 9 18 [] ls st h)) ∧
  (∀ (ls : zL) (st : zS) (h : zH), zx 27 9 ls st h = zgo 27 (zpure (.iload_n 1) 10 0 [] ls st h)) ∧
  (∀ (ls : zL) (st : zS) (h : zH), zx 27 10 ls st h = zgo 27 (zpure (.aload_n 0) 11 0 [] ls st h)) ∧
  (∀ (ls : zL) (st : zS) (h : zH), zx 27 11 ls st h = zgo 27 (zpure (.getfield 15) 14 0 [3, 1] ls st h)) ∧
  (∀ (ls : zL) (st : zS) (h : zH), zx 27 14 ls st h = zgo 27 (zpure .iadd 15 0 [] ls st h)) ∧
  (∀ (ls : zL) (st : zS) (h : zH), zx 27 15 ls st h = zgo 27 (zpure (.goto 9) 18 24 [] ls st h)) ∧
  (∀ (ls : zL) (st : zS) (h : zH), zx 27 18 ls st h = zgo 27 (zpure (.iload_n 2) 19 0 [] ls st h)) ∧
  (∀ (ls : zL) (st : zS) (h : zH), zx 27 19 ls st h = zgo 27 (zpure (.aload_n 0) 20 0 [] ls st h)) ∧
  (∀ (ls : zL) (st : zS) (h : zH), zx 27 20 ls st h = zgo 27 (zpure (.getfield 15) 23 0 [3, 1] ls st h)) ∧
  (∀ (ls : zL) (st : zS) (h : zH), zx 27 23 ls st h = zgo 27 (zpure .isub 24 0 [] ls st h)) ∧
  (∀ (ls : zL) (st : zS) (h : zH), zx 27 24 ls st h = zret 0 st h) :=
  ⟨zx_0 rfl, zx_0 rfl, zx_0 rfl, zx_0 rfl, zx_0 rfl, zx_0 rfl, zx_0 rfl, zx_0 rfl, zx_0 rfl, zx_0 rfl, zx_0 rfl, zx_0 rfl, zx_0 rfl, zx_1 rfl⟩
/-- X4_init -/
theorem z28 :
  (∀ (ls : zL) (st : zS) (h : zH), zx 28 0 ls st h = zgo 28 (zpure (.aload_n 0) 1 0 [] ls st h)) ∧
  (∀ (ls : zL) (st : zS) (h : zH), zx 28 1 ls st h = zgo 28 (zpure (.invokespecial 3) 4 0 [] ls st h)) ∧
  (∀ (ls : zL) (st : zS) (h : zH), zx 28 4 ls st h = zgo 28 (zpure (.aload_n 0) 5 0 [] ls st h)) ∧
  (∀ (ls : zL) (st : zS) (h : zH), zx 28 5 ls st h = zgo 28 (zpure (.bipush 116) 7 0 [] ls st h)) ∧
  (∀ (ls : zL) (st : zS) (h : zH), zx 28 7 ls st h = zgo 28 (zpure (.newarray .int) 9 0 [] ls st h)) ∧
  (∀ (ls : zL) (st : zS) (h : zH), zx 28 9 ls st h = zgo 28 (zpure (.putfield 9) 12 0 [4, 0, 7] ls st h)) ∧
  (∀ (ls : zL) (st : zS) (h : zH), zx 28 12 ls st h = zgo 28 (zpure (.aload_n 0) 13 0 [] ls st h)) ∧
  (∀ (ls : zL) (st : zS) (h : zH), zx 28 13 ls st h = zgo 28 (zpure (.bipush 116) 15 0 [] ls st h)) ∧
  (∀ (ls : zL) (st : zS) (h : zH), zx 28 15 ls st h = zgo 28 (zpure (.newarray .int) 17 0 [] ls st h)) ∧
  (∀ (ls : zL) (st : zS) (h : zH), zx 28 17 ls st h = zgo 28 (zpure (.putfield 15) 20 0 [4, 1, 7] ls st h)) ∧
  (∀ (ls : zL) (st : zS) (h : zH), zx 28 20 ls st h = zgo 28 (zpure (.aload_n 0) 21 0 [] ls st h)) ∧
  (∀ (ls : zL) (st : zS) (h : zH), zx 28 21 ls st h = zgo 28 (zpure (.bipush 116) 23 0 [] ls st h)) ∧
  (∀ (ls : zL) (st : zS) (h : zH), zx 28 23 ls st h = zgo 28 (zpure (.newarray .int) 25 0 [] ls st h)) ∧
  (∀ (ls : zL) (st : zS) (h : zH), zx 28 25 ls st h = zgo 28 (zpure (.putfield 18) 28 0 [4, 2, 7] ls st h)) ∧
  (∀ (ls : zL) (st : zS) (h : zH), zx 28 28 ls st h = zgo 28 (zpure (.aload_n 0) 29 0 [] ls st h)) ∧
  (∀ (ls : zL) (st : zS) (h : zH), zx 28 29 ls st h = zgo 28 (zpure (.iconst 0) 30 0 [] ls st h)) ∧
  (∀ (ls : zL) (st : zS) (h : zH), zx 28 30 ls st h = zgo 28 (zpure (.putfield 21) 33 0 [4, 3, 0] ls st h)) ∧
  (∀ (ls : zL) (st : zS) (h : zH), zx 28 33 ls st h = zret 8 st h) :=
  ⟨zx_0 rfl, zx_0 rfl, zx_0 rfl, zx_0 rfl, zx_0 rfl, zx_0 rfl, zx_0 rfl, zx_0 rfl, zx_0 rfl, zx_0 rfl, zx_0 rfl, zx_0 rfl, zx_0 rfl, zx_0 rfl, zx_0 rfl, zx_0 rfl, zx_0 rfl, zx_1 rfl⟩
/-- X4_clear -/
theorem z29 :
  (∀ (ls : zL) (st : zS) (h : zH), zx 29 0 ls st h = zgo 29 (zpure (.aload_n 0) 1 0 [] ls st h)) ∧
  (∀ (ls : zL) (st : zS) (h : zH), zx 29 1 ls st h = zgo 29 (zpure (.iconst 0) 2 0 [] ls st h)) ∧
  (∀ (ls : zL) (st : zS) (h : zH), zx 29 2 ls st h = zgo 29 (zpure (.putfield 21) 5 0 [4, 3, 0] ls st h)) ∧
  (∀ (ls : zL) (st : zS) (h : zH), zx 29 5 ls st h = zret 8 st h) :=
  ⟨zx_0 rfl, zx_0 rfl, zx_0 rfl, zx_1 rfl⟩
/-- X4_add -/
theorem z30 :
  (∀ (ls : zL) (st : zS) (h : zH), zx 30 0 ls st h = zgo 30 (zpure (.aload_n 0) 1 0 [] ls st h)) ∧
  (∀ (ls : zL) (st : zS) (h : zH), zx 30 1 ls st h = zgo 30 (zpure (.getfield 21) 4 0 [4, 3] ls st h)) ∧
  (∀ (ls : zL) (st : zS) (h : zH), zx 30 4 ls st h = zgo 30 (zpure (.ifCond .lt 12) 7 16 [] ls st h)) ∧
  (∀ (ls : zL) (st : zS) (h : zH), zx 30 7 ls st h = zgo 30 (zpure (.aload_n 0) 8 0 [] ls st h)) ∧
  (∀ (ls : zL) (st : zS) (h : zH), zx 30 8 ls st h = zgo 30 (zpure (.getfield 21) 11 0 [4, 3] ls st h)) ∧
  (∀ (ls : zL) (st : zS) (h : zH), zx 30 11 ls st h = zgo 30 (zpure (.bipush 116) 13 0 [] ls st h)) ∧
  (∀ (ls : zL) (st : zS) (h : zH), zx 30 13 ls st h = zgo 30 (zpure (.if_icmp .lt 4) 16 17 [] ls st h)) ∧
  (∀ (ls : zL) (st : zS) (h : zH), zx 30 16 ls st h = zret 8 st h) ∧
  (∀ (ls : zL) (st : zS) (h : zH), zx 30 17 ls st h = zgo 30 (zpure (.aload_n 0) 18 0 [] ls st h)) ∧
  (∀ (ls : zL) (st : zS) (h : zH), zx 30 18 ls st h = zgo 30 (zpure (.getfield 9) 21 0 [4, 0] ls st h)) ∧
  (∀ (ls : zL) (st : zS) (h : zH), zx 30 21 ls st h = zgo 30 (zpure (.aload_n 0) 22 0 [] ls st h)) ∧
  (∀ (ls : zL) (st : zS) (h : zH), zx 30 22 ls st h = zgo 30 (zpure (.getfield 21) 25 0 [4, 3] ls st h)) ∧
  (∀ (ls : zL) (st : zS) (h : zH), zx 30 25 ls st h = zgo 30 (zpure (.iload_n 1) 26 0 [] ls st h)) ∧
  (∀ (ls : zL) (st : zS) (h : zH), zx 30 26 ls st h = zgo 30 (zpure .iastore 27 0 [] ls st h)) ∧
  (∀ (ls : zL) (st : zS) (h : zH), zx 30 27 ls st h = zgo 30 (zpure (.aload_n 0) 28 0 [] ls st h)) ∧
  (∀ (ls : zL) (st : zS) (h : zH), zx 30 28 ls st h = zgo 30 (zpure (.getfield 15) 31 0 [4, 1] ls st h)) ∧
  (∀ (ls : zL) (st : zS) (h : zH), zx 30 31 ls st h = zgo 30 (zpure (.aload_n 0) 32 0 [] ls st h)) ∧
  (∀ (ls : zL) (st : zS) (h : zH), zx 30 32 ls st h = zgo 30 (zpure (.getfield 21) 35 0 [4, 3] ls st h)) ∧
  (∀ (ls : zL) (st : zS) (h : zH), zx 30 35 ls st h = zgo 30 (zpure (.iload_n 2) 36 0 [] ls st h)) ∧
  (∀ (ls : zL) (st : zS) (h : zH), zx 30 36 ls st h = zgo 30 (zpure .iastore 37 0 [] ls st h)) ∧
  (∀ (ls : zL) (st : zS) (h : zH), zx 30 37 ls st h = zgo 30 (zpure (.aload_n 0) 38 0 [] ls st h)) ∧
  (∀ (ls : zL) (st : zS) (h : zH), zx 30 38 ls st h = zgo 30 (zpure (.getfield 18) 41 0 [4, 2] ls st h)) ∧
  (∀ (ls : zL) (st : zS) (h : zH), zx 30 41 ls st h = zgo 30 (zpure (.aload_n 0) 42 0 [] ls st h)) ∧
  (∀ (ls : zL) (st : zS) (h : zH), zx 30 42 ls st h = zgo 30 (zpure (.getfield 21) 45 0 [4, 3] ls st h)) ∧
  (∀ (ls : zL) (st : zS) (h : zH), zx 30 45 ls st h = zgo 30 (zpure (.iload_n 3) 46 0 [] ls st h)) ∧
  (∀ (ls : zL) (st : zS) (h : zH), zx 30 46 ls st h = zgo 30 (zpure .iastore 47 0 [] ls st h)) ∧
  (∀ (ls : zL) (st : zS) (h : zH), zx 30 47 ls st h = zgo 30 (zpure (.aload_n 0) 48 0 [] ls st h)) ∧
  (∀ (ls : zL) (st : zS) (h : zH), zx 30 48 ls st h = zgo 30 (zpure .dup 49 0 [] ls st h)) ∧
  (∀ (ls : zL) (st : zS) (h : zH), zx 30 49 ls st h = zgo 30 (zpure (.getfield 21) 52 0 [4, 3] ls st h)) ∧
  (∀ (ls : zL) (st : zS) (h : zH), zx 30 52 ls st h = zgo 30 (zpure (.iconst 1) 53 0 [] ls st h)) ∧
  (∀ (ls : zL) (st : zS) (h : zH), zx 30 53 ls st h = zgo 30 (zpure .iadd 54 0 [] ls st h)) ∧
  (∀ (ls : zL) (st : zS) (h : zH), zx 30 54 ls st h = zgo 30 (zpure (.putfield 21) 57 0 [4, 3, 0] ls st h)) ∧
  (∀ (ls : zL) (st : zS) (h : zH), zx 30 57 ls st h = zret 8 st h) :=
  ⟨zx_0 rfl, zx_0 rfl, zx_0 rfl, zx_0 rfl, zx_0 rfl, zx_0 rfl, zx_0 rfl, zx_1 rfl, zx_0 rfl, zx_0 rfl, zx_0 rfl, zx_0 rfl, zx_0 rfl, zx_0 rfl, zx_0 rfl, zx_0 rfl, zx_0 rfl, zx_0 rfl, zx_0 rfl, zx_0 rfl, zx_0 rfl, zx_0 rfl, zx_0 rfl, zx_0 rfl, zx_0 rfl, zx_0 rfl, zx_0 rfl, zx_0 rfl, zx_0 rfl, zx_0 rfl, zx_0 rfl, zx_0 rfl, zx_1 rfl⟩
theorem z31_0 : ∀ (ls : zL) (st : zS) (h : zH), zx 31 0 ls st h = zgo 31 (zpure (.aload_n 0) 1 0 [] ls st h) := zx_0 rfl
/-- X4_cutAt -/
theorem z31 :
  (∀ (ls : zL) (st : zS) (h : zH), zx 31 1 ls st h = zgo 31 (zpure (.getfield 21) 4 0 [4, 3] ls st h)) ∧
  (∀ (ls : zL) (st : zS) (h : zH), zx 31 4 ls st h = zgo 31 (zpure (.ifCond .le 30) 7 34 [] ls st h)) ∧
  (∀ (ls : zL) (st : zS) (h : zH), zx 31 7 ls st h = zgo 31 (zpure (.aload_n 0) 8 0 [] ls st h)) ∧
  (∀ (ls : zL) (st : zS) (h : zH), zx 31 8 ls st h = zgo 31 (zpure (.aload_n 0) 9 0 [] ls st h)) ∧
  (∀ (ls : zL) (st : zS) (h : zH), zx 31 9 ls st h = zgo 31 (zpure (.getfield 21) 12 0 [4, 3] ls st h)) ∧
  (∀ (ls : zL) (st : zS) (h : zH), zx 31 12 ls st h = zgo 31 (zpure (.iconst 1) 13 0 [] ls st h)) ∧
  (∀ (ls : zL) (st : zS) (h : zH), zx 31 13 ls st h = zgo 31 (zpure .isub 14 0 [] ls st h)) ∧
  (∀ (ls : zL) (st : zS) (h : zH), zx 31 14 ls st h = zca 31 14 17 ls 35 2 5 (ztake 2 st) h) ∧
  (∀ (ls : zL) (st : zS) (h : zH), zx 31 17 ls st h = zgo 31 (zpure (.iload_n 1) 18 0 [] ls st h)) ∧
  (∀ (ls : zL) (st : zS) (h : zH), zx 31 18 ls st h = zgo 31 (zpure (.if_icmp .lt 16) 21 34 [] ls st h)) ∧
  (∀ (ls : zL) (st : zS) (h : zH), zx 31 21 ls st h = zgo 31 (zpure (.aload_n 0) 22 0 [] ls st h)) ∧
  (∀ (ls : zL) (st : zS) (h : zH), zx 31 22 ls st h = zgo 31 (zpure .dup 23 0 [] ls st h)) ∧
  (∀ (ls : zL) (st : zS) (h : zH), zx 31 23 ls st h = zgo 31 (zpure (.getfield 21) 26 0 [4, 3] ls st h)) ∧
  (∀ (ls : zL) (st : zS) (h : zH), zx 31 26 ls st h = zgo 31 (zpure (.iconst 1) 27 0 [] ls st h)) ∧
  (∀ (ls : zL) (st : zS) (h : zH), zx 31 27 ls st h = zgo 31 (zpure .isub 28 0 [] ls st h)) ∧
  (∀ (ls : zL) (st : zS) (h : zH), zx 31 28 ls st h = zgo 31 (zpure (.putfield 21) 31 0 [4, 3, 0] ls st h)) ∧
  (∀ (ls : zL) (st : zS) (h : zH), zx 31 31 ls st h = zgo 31 (zpure (.goto (-31)) 34 0 [] ls st h)) ∧
  (∀ (ls : zL) (st : zS) (h : zH), zx 31 34 ls st h = zgo 31 (zpure (.aload_n 0) 35 0 [] ls st h)) ∧
  (∀ (ls : zL) (st : zS) (h : zH), zx 31 35 ls st h = zgo 31 (zpure (.aload_n 0) 36 0 [] ls st h)) ∧
  (∀ (ls : zL) (st : zS) (h : zH), zx 31 36 ls st h = zgo 31 (zpure (.getfield 21) 39 0 [4, 3] ls st h)) ∧
  (∀ (ls : zL) (st : zS) (h : zH), zx 31 39 ls st h = zgo 31 (zpure (.iconst 1) 40 0 [] ls st h)) ∧
  (∀ (ls : zL) (st : zS) (h : zH), zx 31 40 ls st h = zgo 31 (zpure .isub 41 0 [] ls st h)) ∧
  (∀ (ls : zL) (st : zS) (h : zH), zx 31 41 ls st h = zca 31 41 44 ls 33 2 5 (ztake 2 st) h) ∧
  (∀ (ls : zL) (st : zS) (h : zH), zx 31 44 ls st h = zgo 31 (zpure (.ifCond .eq 30) 47 74 [] ls st h)) ∧
  (∀ (ls : zL) (st : zS) (h : zH), zx 31 47 ls st h = zgo 31 (zpure (.aload_n 0) 48 0 [] ls st h)) ∧
  (∀ (ls : zL) (st : zS) (h : zH), zx 31 48 ls st h = zgo 31 (zpure (.getfield 18) 51 0 [4, 2] ls st h)) ∧
  (∀ (ls : zL) (st : zS) (h : zH), zx 31 51 ls st h = zgo 31 (zpure (.aload_n 0) 52 0 [] ls st h)) ∧
  (∀ (ls : zL) (st : zS) (h : zH), zx 31 52 ls st h = zgo 31 (zpure (.getfield 21) 55 0 [4, 3] ls st h)) ∧
  (∀ (ls : zL) (st : zS) (h : zH), zx 31 55 ls st h = zgo 31 (zpure (.iconst 1) 56 0 [] ls st h)) ∧
  (∀ (ls : zL) (st : zS) (h : zH), zx 31 56 ls st h = zgo 31 (zpure .isub 57 0 [] ls st h)) ∧
  (∀ (ls : zL) (st : zS) (h : zH), zx 31 57 ls st h = zgo 31 (zpure .iaload 58 0 [] ls st h)) ∧
  (∀ (ls : zL) (st : zS) (h : zH), zx 31 58 ls st h = zgo 31 (zpure (.iload_n 1) 59 0 [] ls st h)) ∧
  (∀ (ls : zL) (st : zS) (h : zH), zx 31 59 ls st h = zgo 31 (zpure (.if_icmp .le 15) 62 74 [] ls st h)) ∧
  (∀ (ls : zL) (st : zS) (h : zH), zx 31 62 ls st h = zgo 31 (zpure (.aload_n 0) 63 0 [] ls st h)) ∧
  (∀ (ls : zL) (st : zS) (h : zH), zx 31 63 ls st h = zgo 31 (zpure (.getfield 18) 66 0 [4, 2] ls st h)) ∧
  (∀ (ls : zL) (st : zS) (h : zH), zx 31 66 ls st h = zgo 31 (zpure (.aload_n 0) 67 0 [] ls st h)) ∧
  (∀ (ls : zL) (st : zS) (h : zH), zx 31 67 ls st h = zgo 31 (zpure (.getfield 21) 70 0 [4, 3] ls st h)) ∧
  (∀ (ls : zL) (st : zS) (h : zH), zx 31 70 ls st h = zgo 31 (zpure (.iconst 1) 71 0 [] ls st h)) ∧
  (∀ (ls : zL) (st : zS) (h : zH), zx 31 71 ls st h = zgo 31 (zpure .isub 72 0 [] ls st h)) ∧
  (∀ (ls : zL) (st : zS) (h : zH), zx 31 72 ls st h = zgo 31 (zpure (.iload_n 1) 73 0 [] ls st h)) ∧
  (∀ (ls : zL) (st : zS) (h : zH), zx 31 73 ls st h = zgo 31 (zpure .iastore 74 0 [] ls st h)) ∧
  (∀ (ls : zL) (st : zS) (h : zH), zx 31 74 ls st h = zret 8 st h) :=
  ⟨zx_0 rfl, zx_0 rfl, zx_0 rfl, zx_0 rfl, zx_0 rfl, zx_0 rfl, zx_0 rfl, zx_2c rfl, zx_0 rfl, zx_0 rfl, zx_0 rfl, zx_0 rfl, zx_0 rfl, zx_0 rfl, zx_0 rfl, zx_0 rfl, zx_0 rfl, zx_0 rfl, zx_0 rfl, zx_0 rfl, zx_0 rfl, zx_0 rfl, zx_2c rfl, zx_0 rfl, zx_0 rfl, zx_0 rfl, zx_0 rfl, zx_0 rfl, zx_0 rfl, zx_0 rfl, zx_0 rfl, zx_0 rfl, zx_0 rfl, zx_0 rfl, zx_0 rfl, zx_0 rfl, zx_0 rfl, zx_0 rfl, zx_0 rfl, zx_0 rfl, zx_0 rfl, zx_1 rfl⟩
theorem z32_6 : ∀ (ls : zL) (st : zS) (h : zH), zx 32 6 ls st h = zgo 32 (zpure (.iload_n 2) 7 0 [] ls st h) := zx_0 rfl
/-- X4_takeFrom -/
theorem z32 :
  (∀ (ls : zL) (st : zS) (h : zH), zx 32 0 ls st h = zgo 32 (zpure (.aload_n 0) 1 0 [] ls st h)) ∧
  (∀ (ls : zL) (st : zS) (h : zH), zx 32 1 ls st h = zca 32 1 4 ls 29 1 5 (ztake 1 st) h) ∧
  (∀ (ls : zL) (st : zS) (h : zH), zx 32 4 ls st h = zgo 32 (zpure (.iconst 0) 5 0 [] ls st h)) ∧
  (∀ (ls : zL) (st : zS) (h : zH), zx 32 5 ls st h = zgo 32 (zpure (.istore_n 2) 6 0 [] ls st h)) ∧
  (∀ (ls : zL) (st : zS) (h : zH), zx 32 7 ls st h = zgo 32 (zpure (.aload_n 1) 8 0 [] ls st h)) ∧
  (∀ (ls : zL) (st : zS) (h : zH), zx 32 8 ls st h = zgo 32 (zpure (.getfield 21) 11 0 [4, 3] ls st h)) ∧
  (∀ (ls : zL) (st : zS) (h : zH), zx 32 11 ls st h = zgo 32 (zpure (.if_icmp .ge 28) 14 39 [] ls st h)) ∧
  (∀ (ls : zL) (st : zS) (h : zH), zx 32 14 ls st h = zgo 32 (zpure (.aload_n 0) 15 0 [] ls st h)) ∧
  (∀ (ls : zL) (st : zS) (h : zH), zx 32 15 ls st h = zgo 32 (zpure (.aload_n 1) 16 0 [] ls st h)) ∧
  (∀ (ls : zL) (st : zS) (h : zH), zx 32 16 ls st h = zgo 32 (zpure (.iload_n 2) 17 0 [] ls st h)) ∧
  (∀ (ls : zL) (st : zS) (h : zH), zx 32 17 ls st h = zca 32 17 20 ls 34 2 5 (ztake 2 st) h) ∧
  (∀ (ls : zL) (st : zS) (h : zH), zx 32 20 ls st h = zgo 32 (zpure (.aload_n 1) 21 0 [] ls st h)) ∧
  (∀ (ls : zL) (st : zS) (h : zH), zx 32 21 ls st h = zgo 32 (zpure (.iload_n 2) 22 0 [] ls st h)) ∧
  (∀ (ls : zL) (st : zS) (h : zH), zx 32 22 ls st h = zca 32 22 25 ls 35 2 5 (ztake 2 st) h) ∧
  (∀ (ls : zL) (st : zS) (h : zH), zx 32 25 ls st h = zgo 32 (zpure (.aload_n 1) 26 0 [] ls st h)) ∧
  (∀ (ls : zL) (st : zS) (h : zH), zx 32 26 ls st h = zgo 32 (zpure (.iload_n 2) 27 0 [] ls st h)) ∧
  (∀ (ls : zL) (st : zS) (h : zH), zx 32 27 ls st h = zca 32 27 30 ls 36 2 5 (ztake 2 st) h) ∧
  (∀ (ls : zL) (st : zS) (h : zH), zx 32 30 ls st h = zca 32 30 33 ls 30 4 5 (ztake 4 st) h) ∧
  (∀ (ls : zL) (st : zS) (h : zH), zx 32 33 ls st h = zgo 32 (zpure (.iinc 2 1) 36 0 [] ls st h)) ∧
  (∀ (ls : zL) (st : zS) (h : zH), zx 32 36 ls st h = zgo 32 (zpure (.goto (-30)) 39 6 [] ls st h)) ∧
  (∀ (ls : zL) (st : zS) (h : zH), zx 32 39 ls st h = zret 8 st h) :=
  ⟨zx_0 rfl, zx_2c rfl, zx_0 rfl, zx_0 rfl, zx_0 rfl, zx_0 rfl, zx_0 rfl, zx_0 rfl, zx_0 rfl, zx_0 rfl, zx_2c rfl, zx_0 rfl, zx_0 rfl, zx_2c rfl, zx_0 rfl, zx_0 rfl, zx_2c rfl, zx_2c rfl, zx_0 rfl, zx_0 rfl, zx_1 rfl⟩
/-- X4_has -/
theorem z33 :
  (∀ (ls : zL) (st : zS) (h : zH), zx 33 0 ls st h = zgo 33 (zpure (.iload_n 1) 1 0 [] ls st h)) ∧
  (∀ (ls : zL) (st : zS) (h : zH), zx 33 1 ls st h = zgo 33 (zpure (.ifCond .lt 21) 4 22 [] ls st h)) ∧
  (∀ (ls : zL) (st : zS) (h : zH), zx 33 4 ls st h = zgo 33 (zpure (.iload_n 1) 5 0 [] ls st h)) ∧
  (∀ (ls : zL) (st : zS) (h : zH), zx 33 5 ls st h = zgo 33 (zpure (.aload_n 0) 6 0 [] ls st h)) ∧
  (∀ (ls : zL) (st : zS) (h : zH), zx 33 6 ls st h = zgo 33 (zpure (.getfield 21) 9 0 [4, 3] ls st h)) ∧
  (∀ (ls : zL) (st : zS) (h : zH), zx 33 9 ls st h = zgo 33 (zpure (.if_icmp .ge 13) 12 22 [] ls st h)) ∧
  (∀ (ls : zL) (st : zS) (h : zH), zx 33 12 ls st h = zgo 33 (zpure (.iload_n 1) 13 0 [] ls st h)) ∧
  (∀ (ls : zL) (st : zS) (h : zH), zx 33 13 ls st h = zgo 33 (zpure (.bipush 116) 15 0 [] ls st h)) ∧
  (∀ (ls : zL) (st : zS) (h : zH), zx 33 15 ls st h = zgo 33 (zpure (.if_icmp .ge 7) 18 22 [] ls st h)) ∧
  (∀ (ls : zL) (st : zS) (h : zH), zx 33 18 ls st h = zgo 33 (zpure (.iconst 1) 19 0 [] ls st h)) ∧
  (∀ (ls : zL) (st : zS) (h : zH), zx 33 19 ls st h = zgo 33 (zpure (.goto 4) 22 23 [] ls st h)) ∧
  (∀ (ls : zL) (st : zS) (h : zH), zx 33 22 ls st h = zgo 33 (zpure (.iconst 0) 23 0 [] ls st h)) ∧
  (∀ (ls : zL) (st : zS) (h : zH), zx 33 23 ls st h = zret 1 st h) :=
  ⟨zx_0 rfl, zx_0 rfl, zx_0 rfl, zx_0 rfl, zx_0 rfl, zx_0 rfl, zx_0 rfl, zx_0 rfl, zx_0 rfl, zx_0 rfl, zx_0 rfl, zx_0 rfl, zx_1 rfl⟩
/-- X4_clipIn -/
theorem z34 :
  (∀ (ls : zL) (st : zS) (h : zH), zx 34 0 ls st h = zgo 34 (zpure (.aload_n 0) 1 0 [] ls st h)) ∧
  (∀ (ls : zL) (st : zS) (h : zH), zx 34 1 ls st h = zgo 34 (zpure (.iload_n 1) 2 0 [] ls st h)) ∧
  (∀ (ls : zL) (st : zS) (h : zH), zx 34 2 ls st h = zca 34 2 5 ls 33 2 5 (ztake 2 st) h) ∧
  (∀ (ls : zL) (st : zS) (h : zH), zx 34 5 ls st h = zgo 34 (zpure (.ifCond .eq 12) 8 17 [] ls st h)) ∧
  (∀ (ls : zL) (st : zS) (h : zH), zx 34 8 ls st h = zgo 34 (zpure (.aload_n 0) 9 0 [] ls st h)) ∧
  (∀ (ls : zL) (st : zS) (h : zH), zx 34 9 ls st h = zgo 34 (zpure (.getfield 9) 12 0 [4, 0] ls st h)) ∧
  (∀ (ls : zL) (st : zS) (h : zH), zx 34 12 ls st h = zgo 34 (zpure (.iload_n 1) 13 0 [] ls st h)) ∧
  (∀ (ls : zL) (st : zS) (h : zH), zx 34 13 ls st h = zgo 34 (zpure .iaload 14 0 [] ls st h)) ∧
  (∀ (ls : zL) (st : zS) (h : zH), zx 34 14 ls st h = zgo 34 (zpure (.goto 4) 17 18 [] ls st h)) ∧
  (∀ (ls : zL) (st : zS) (h : zH), zx 34 17 ls st h = zgo 34 (zpure (.iconst (-1)) 18 0 [] ls st h)) ∧
  (∀ (ls : zL) (st : zS) (h : zH), zx 34 18 ls st h = zret 0 st h) :=
  ⟨zx_0 rfl, zx_0 rfl, zx_2c rfl, zx_0 rfl, zx_0 rfl, zx_0 rfl, zx_0 rfl, zx_0 rfl, zx_0 rfl, zx_0 rfl, zx_1 rfl⟩
/-- X4_startIn -/
theorem z35 :
  (∀ (ls : zL) (st : zS) (h : zH), zx 35 0 ls st h = zgo 35 (zpure (.aload_n 0) 1 0 [] ls st h)) ∧
  (∀ (ls : zL) (st : zS) (h : zH), zx 35 1 ls st h = zgo 35 (zpure (.iload_n 1) 2 0 [] ls st h)) ∧
  (∀ (ls : zL) (st : zS) (h : zH), zx 35 2 ls st h = zca 35 2 5 ls 33 2 5 (ztake 2 st) h) ∧
  (∀ (ls : zL) (st : zS) (h : zH), zx 35 5 ls st h = zgo 35 (zpure (.ifCond .eq 12) 8 17 [] ls st h)) ∧
  (∀ (ls : zL) (st : zS) (h : zH), zx 35 8 ls st h = zgo 35 (zpure (.aload_n 0) 9 0 [] ls st h)) ∧
  (∀ (ls : zL) (st : zS) (h : zH), zx 35 9 ls st h = zgo 35 (zpure (.getfield 15) 12 0 [4, 1] ls st h)) ∧
  (∀ (ls : zL) (st : zS) (h : zH), zx 35 12 ls st h = zgo 35 (zpure (.iload_n 1) 13 0 [] ls st h)) ∧
  (∀ (ls : zL) (st : zS) (h : zH), zx 35 13 ls st h = zgo 35 (zpure .iaload 14 0 [] ls st h)) ∧
  (∀ (ls : zL) (st : zS) (h : zH), zx 35 14 ls st h = zgo 35 (zpure (.goto 4) 17 18 [] ls st h)) ∧
  (∀ (ls : zL) (st : zS) (h : zH), zx 35 17 ls st h = zgo 35 (zpure (.iconst 0) 18 0 [] ls st h)) ∧
  (∀ (ls : zL) (st : zS) (h : zH), zx 35 18 ls st h = zret 0 st h) :=
  ⟨zx_0 rfl, zx_0 rfl, zx_2c rfl, zx_0 rfl, zx_0 rfl, zx_0 rfl, zx_0 rfl, zx_0 rfl, zx_0 rfl, zx_0 rfl, zx_1 rfl⟩
/-- X4_endIn -/
theorem z36 :
  (∀ (ls : zL) (st : zS) (h : zH), zx 36 0 ls st h = zgo 36 (zpure (.aload_n 0) 1 0 [] ls st h)) ∧
  (∀ (ls : zL) (st : zS) (h : zH), zx 36 1 ls st h = zgo 36 (zpure (.iload_n 1) 2 0 [] ls st h)) ∧
  (∀ (ls : zL) (st : zS) (h : zH), zx 36 2 ls st h = zca 36 2 5 ls 33 2 5 (ztake 2 st) h) ∧
  (∀ (ls : zL) (st : zS) (h : zH), zx 36 5 ls st h = zgo 36 (zpure (.ifCond .eq 12) 8 17 [] ls st h)) ∧
  (∀ (ls : zL) (st : zS) (h : zH), zx 36 8 ls st h = zgo 36 (zpure (.aload_n 0) 9 0 [] ls st h)) ∧
  (∀ (ls : zL) (st : zS) (h : zH), zx 36 9 ls st h = zgo 36 (zpure (.getfield 18) 12 0 [4, 2] ls st h)) ∧
  (∀ (ls : zL) (st : zS) (h : zH), zx 36 12 ls st h = zgo 36 (zpure (.iload_n 1) 13 0 [] ls st h)) ∧
  (∀ (ls : zL) (st : zS) (h : zH), zx 36 13 ls st h = zgo 36 (zpure .iaload 14 0 [] ls st h)) ∧
  (∀ (ls : zL) (st : zS) (h : zH), zx 36 14 ls st h = zgo 36 (zpure (.goto 4) 17 18 [] ls st h)) ∧
  (∀ (ls : zL) (st : zS) (h : zH), zx 36 17 ls st h = zgo 36 (zpure (.iconst 0) 18 0 [] ls st h)) ∧
  (∀ (ls : zL) (st : zS) (h : zH), zx 36 18 ls st h = zret 0 st h) :=
  ⟨zx_0 rfl, zx_0 rfl, zx_2c rfl, zx_0 rfl, zx_0 rfl, zx_0 rfl, zx_0 rfl, zx_0 rfl, zx_0 rfl, zx_0 rfl, zx_1 rfl⟩
/-- X4_lengthIn -/
theorem z37 :
  (∀ (ls : zL) (st : zS) (h : zH), zx 37 0 ls st h = zgo 37 (zpure (.aload_n 0) 1 0 [] ls st h)) ∧
  (∀ (ls : zL) (st : zS) (h : zH), zx 37 1 ls st h = zgo 37 (zpure (.iload_n 1) 2 0 [] ls st h)) ∧
  (∀ (ls : zL) (st : zS) (h : zH), zx 37 2 ls st h = zca 37 2 5 ls 36 2 5 (ztake 2 st) h) ∧
  (∀ (ls : zL) (st : zS) (h : zH), zx 37 5 ls st h = zgo 37 (zpure (.aload_n 0) 6 0 [] ls st h)) ∧
  (∀ (ls : zL) (st : zS) (h : zH), zx 37 6 ls st h = zgo 37 (zpure (.iload_n 1) 7 0 [] ls st h)) ∧
  (∀ (ls : zL) (st : zS) (h : zH), zx 37 7 ls st h = zca 37 7 10 ls 35 2 5 (ztake 2 st) h) ∧
  (∀ (ls : zL) (st : zS) (h : zH), zx 37 10 ls st h = zgo 37 (zpure .isub 11 0 [] ls st h)) ∧
  (∀ (ls : zL) (st : zS) (h : zH), zx 37 11 ls st h = zret 0 st h) :=
  ⟨zx_0 rfl, zx_0 rfl, zx_2c rfl, zx_0 rfl, zx_0 rfl, zx_2c rfl, zx_0 rfl, zx_1 rfl⟩
theorem z38_2 : ∀ (ls : zL) (st : zS) (h : zH), zx 38 2 ls st h = zgo 38 (zpure (.iload_n 2) 3 0 [] ls st h) := zx_0 rfl
/-- X4_clipFromSpans -/
theorem z38 :
  (∀ (ls : zL) (st : zS) (h : zH), zx 38 0 ls st h = zgo 38 (zpure (.iconst 0) 1 0 [] ls st h)) ∧
  (∀ (ls : zL) (st : zS) (h : zH), zx 38 1 ls st h = zgo 38 (zpure (.istore_n 2) 2 0 [] ls st h)) ∧
  (∀ (ls : zL) (st : zS) (h : zH), zx 38 3 ls st h = zgo 38 (zpure (.aload_n 0) 4 0 [] ls st h)) ∧
  (∀ (ls : zL) (st : zS) (h : zH), zx 38 4 ls st h = zgo 38 (zpure (.getfield 21) 7 0 [4, 3] ls st h)) ∧
  (∀ (ls : zL) (st : zS) (h : zH), zx 38 7 ls st h = zgo 38 (zpure (.if_icmp .ge 33) 10 40 [] ls st h)) ∧
  (∀ (ls : zL) (st : zS) (h : zH), zx 38 10 ls st h = zgo 38 (zpure (.aload_n 0) 11 0 [] ls st h)) ∧
  (∀ (ls : zL) (st : zS) (h : zH), zx 38 11 ls st h = zgo 38 (zpure (.iload_n 2) 12 0 [] ls st h)) ∧
  (∀ (ls : zL) (st : zS) (h : zH), zx 38 12 ls st h = zca 38 12 15 ls 35 2 5 (ztake 2 st) h) ∧
  (∀ (ls : zL) (st : zS) (h : zH), zx 38 15 ls st h = zgo 38 (zpure (.iload_n 1) 16 0 [] ls st h)) ∧
  (∀ (ls : zL) (st : zS) (h : zH), zx 38 16 ls st h = zgo 38 (zpure (.if_icmp .gt 18) 19 34 [] ls st h)) ∧
  (∀ (ls : zL) (st : zS) (h : zH), zx 38 19 ls st h = zgo 38 (zpure (.iload_n 1) 20 0 [] ls st h)) ∧
  (∀ (ls : zL) (st : zS) (h : zH), zx 38 20 ls st h = zgo 38 (zpure (.aload_n 0) 21 0 [] ls st h)) ∧
  (∀ (ls : zL) (st : zS) (h : zH), zx 38 21 ls st h = zgo 38 (zpure (.iload_n 2) 22 0 [] ls st h)) ∧
  (∀ (ls : zL) (st : zS) (h : zH), zx 38 22 ls st h = zca 38 22 25 ls 36 2 5 (ztake 2 st) h) ∧
  (∀ (ls : zL) (st : zS) (h : zH), zx 38 25 ls st h = zgo 38 (zpure (.if_icmp .ge 9) 28 34 [] ls st h)) ∧
  (∀ (ls : zL) (st : zS) (h : zH), zx 38 28 ls st h = zgo 38 (zpure (.aload_n 0) 29 0 [] ls st h)) ∧
  (∀ (ls : zL) (st : zS) (h : zH), zx 38 29 ls st h = zgo 38 (zpure (.iload_n 2) 30 0 [] ls st h)) ∧
  (∀ (ls : zL) (st : zS) (h : zH), zx 38 30 ls st h = zca 38 30 33 ls 34 2 5 (ztake 2 st) h) ∧
  (∀ (ls : zL) (st : zS) (h : zH), zx 38 33 ls st h = zret 0 st h) ∧
  (∀ (ls : zL) (st : zS) (h : zH), zx 38 34 ls st h = zgo 38 (zpure (.iinc 2 1) 37 0 [] ls st h)) ∧
  (∀ (ls : zL) (st : zS) (h : zH), zx 38 37 ls st h = zgo 38 (zpure (.goto (-35)) 40 2 [] ls st h)) ∧
  (∀ (ls : zL) (st : zS) (h : zH), zx 38 40 ls st h = zgo 38 (zpure (.iconst (-1)) 41 0 [] ls st h)) ∧
  (∀ (ls : zL) (st : zS) (h : zH), zx 38 41 ls st h = zret 0 st h) :=
  ⟨zx_0 rfl, zx_0 rfl, zx_0 rfl, zx_0 rfl, zx_0 rfl, zx_0 rfl, zx_0 rfl, zx_2c rfl, zx_0 rfl, zx_0 rfl, zx_0 rfl, zx_0 rfl, zx_0 rfl, zx_2c rfl, zx_0 rfl, zx_0 rfl, zx_0 rfl, zx_2c rfl, zx_1 rfl, zx_0 rfl, zx_0 rfl, zx_0 rfl, zx_1 rfl⟩
theorem z39_4 : ∀ (ls : zL) (st : zS) (h : zH), zx 39 4 ls st h = zgo 39 (zpure (.iload_n 3) 5 0 [] ls st h) := zx_0 rfl
/-- X4_clipFromSeconds -/
theorem z39 :
  (∀ (ls : zL) (st : zS) (h : zH), zx 39 0 ls st h = zgo 39 (zpure (.iconst 0) 1 0 [] ls st h)) ∧
  (∀ (ls : zL) (st : zS) (h : zH), zx 39 1 ls st h = zgo 39 (zpure (.istore_n 2) 2 0 [] ls st h)) ∧
  (∀ (ls : zL) (st : zS) (h : zH), zx 39 2 ls st h = zgo 39 (zpure (.iconst 1) 3 0 [] ls st h)) ∧
  (∀ (ls : zL) (st : zS) (h : zH), zx 39 3 ls st h = zgo 39 (zpure (.istore_n 3) 4 0 [] ls st h)) ∧
  (∀ (ls : zL) (st : zS) (h : zH), zx 39 5 ls st h = zgo 39 (zpure (.iload_n 1) 6 0 [] ls st h)) ∧
  (∀ (ls : zL) (st : zS) (h : zH), zx 39 6 ls st h = zgo 39 (zpure (.if_icmp .gt 21) 9 27 [] ls st h)) ∧
  (∀ (ls : zL) (st : zS) (h : zH), zx 39 9 ls st h = zgo 39 (zpure (.iload_n 3) 10 0 [] ls st h)) ∧
  (∀ (ls : zL) (st : zS) (h : zH), zx 39 10 ls st h = zgo 39 (zpure (.aload_n 0) 11 0 [] ls st h)) ∧
  (∀ (ls : zL) (st : zS) (h : zH), zx 39 11 ls st h = zgo 39 (zpure (.iload_n 2) 12 0 [] ls st h)) ∧
  (∀ (ls : zL) (st : zS) (h : zH), zx 39 12 ls st h = zca 39 12 15 ls 36 2 5 (ztake 2 st) h) ∧
  (∀ (ls : zL) (st : zS) (h : zH), zx 39 15 ls st h = zgo 39 (zpure (.if_icmp .ne 6) 18 21 [] ls st h)) ∧
  (∀ (ls : zL) (st : zS) (h : zH), zx 39 18 ls st h = zgo 39 (zpure (.iinc 2 1) 21 0 [] ls st h)) ∧
  (∀ (ls : zL) (st : zS) (h : zH), zx 39 21 ls st h = zgo 39 (zpure (.iinc 3 1) 24 0 [] ls st h)) ∧
  (∀ (ls : zL) (st : zS) (h : zH), zx 39 24 ls st h = zgo 39 (zpure (.goto (-20)) 27 4 [] ls st h)) ∧
  (∀ (ls : zL) (st : zS) (h : zH), zx 39 27 ls st h = zgo 39 (zpure (.aload_n 0) 28 0 [] ls st h)) ∧
  (∀ (ls : zL) (st : zS) (h : zH), zx 39 28 ls st h = zgo 39 (zpure (.iload_n 2) 29 0 [] ls st h)) ∧
  (∀ (ls : zL) (st : zS) (h : zH), zx 39 29 ls st h = zca 39 29 32 ls 34 2 5 (ztake 2 st) h) ∧
  (∀ (ls : zL) (st : zS) (h : zH), zx 39 32 ls st h = zret 0 st h) :=
  ⟨zx_0 rfl, zx_0 rfl, zx_0 rfl, zx_0 rfl, zx_0 rfl, zx_0 rfl, zx_0 rfl, zx_0 rfl, zx_0 rfl, zx_2c rfl, zx_0 rfl, zx_0 rfl, zx_0 rfl, zx_0 rfl, zx_0 rfl, zx_0 rfl, zx_2c rfl, zx_1 rfl⟩
theorem z40_7 : ∀ (ls : zL) (st : zS) (h : zH), zx 40 7 ls st h = zgo 40 (zpure (.iload_n 3) 8 0 [] ls st h) := zx_0 rfl
/-- X4_secondsApartFrom -/
theorem z40 :
  (∀ (ls : zL) (st : zS) (h : zH), zx 40 0 ls st h = zgo 40 (zpure (.iconst 0) 1 0 [] ls st h)) ∧
  (∀ (ls : zL) (st : zS) (h : zH), zx 40 1 ls st h = zgo 40 (zpure (.istore_n 2) 2 0 [] ls st h)) ∧
  (∀ (ls : zL) (st : zS) (h : zH), zx 40 2 ls st h = zgo 40 (zpure (.iconst 0) 3 0 [] ls st h)) ∧
  (∀ (ls : zL) (st : zS) (h : zH), zx 40 3 ls st h = zgo 40 (zpure (.istore_n 3) 4 0 [] ls st h)) ∧
  (∀ (ls : zL) (st : zS) (h : zH), zx 40 4 ls st h = zgo 40 (zpure (.iconst 0) 5 0 [] ls st h)) ∧
  (∀ (ls : zL) (st : zS) (h : zH), zx 40 5 ls st h = zgo 40 (zpure (.istore 4) 7 0 [] ls st h)) ∧
  (∀ (ls : zL) (st : zS) (h : zH), zx 40 8 ls st h = zgo 40 (zpure (.aload_n 0) 9 0 [] ls st h)) ∧
  (∀ (ls : zL) (st : zS) (h : zH), zx 40 9 ls st h = zgo 40 (zpure (.getfield 21) 12 0 [4, 3] ls st h)) ∧
  (∀ (ls : zL) (st : zS) (h : zH), zx 40 12 ls st h = zgo 40 (zpure (.if_icmp .ge 95) 15 107 [] ls st h)) ∧
  (∀ (ls : zL) (st : zS) (h : zH), zx 40 15 ls st h = zgo 40 (zpure (.iload 4) 17 0 [] ls st h)) ∧
  (∀ (ls : zL) (st : zS) (h : zH), zx 40 17 ls st h = zgo 40 (zpure (.aload_n 1) 18 0 [] ls st h)) ∧
  (∀ (ls : zL) (st : zS) (h : zH), zx 40 18 ls st h = zgo 40 (zpure (.getfield 21) 21 0 [4, 3] ls st h)) ∧
  (∀ (ls : zL) (st : zS) (h : zH), zx 40 21 ls st h = zgo 40 (zpure (.if_icmp .ge 86) 24 107 [] ls st h)) ∧
  (∀ (ls : zL) (st : zS) (h : zH), zx 40 24 ls st h = zgo 40 (zpure (.aload_n 0) 25 0 [] ls st h)) ∧
  (∀ (ls : zL) (st : zS) (h : zH), zx 40 25 ls st h = zgo 40 (zpure (.iload_n 3) 26 0 [] ls st h)) ∧
  (∀ (ls : zL) (st : zS) (h : zH), zx 40 26 ls st h = zca 40 26 29 ls 35 2 5 (ztake 2 st) h) ∧
  (∀ (ls : zL) (st : zS) (h : zH), zx 40 29 ls st h = zgo 40 (zpure (.aload_n 1) 30 0 [] ls st h)) ∧
  (∀ (ls : zL) (st : zS) (h : zH), zx 40 30 ls st h = zgo 40 (zpure (.iload 4) 32 0 [] ls st h)) ∧
  (∀ (ls : zL) (st : zS) (h : zH), zx 40 32 ls st h = zca 40 32 35 ls 35 2 5 (ztake 2 st) h) ∧
  (∀ (ls : zL) (st : zS) (h : zH), zx 40 35 ls st h = zgo 40 (zpure (.invokestatic 46) 38 0 [1] ls st h)) ∧
  (∀ (ls : zL) (st : zS) (h : zH), zx 40 38 ls st h = zgo 40 (zpure (.istore 5) 40 0 [] ls st h)) ∧
  (∀ (ls : zL) (st : zS) (h : zH), zx 40 40 ls st h = zgo 40 (zpure (.aload_n 0) 41 0 [] ls st h)) ∧
  (∀ (ls : zL) (st : zS) (h : zH), zx 40 41 ls st h = zgo 40 (zpure (.iload_n 3) 42 0 [] ls st h)) ∧
  (∀ (ls : zL) (st : zS) (h : zH), zx 40 42 ls st h = zca 40 42 45 ls 36 2 5 (ztake 2 st) h) ∧
  (∀ (ls : zL) (st : zS) (h : zH), zx 40 45 ls st h = zgo 40 (zpure (.aload_n 1) 46 0 [] ls st h)) ∧
  (∀ (ls : zL) (st : zS) (h : zH), zx 40 46 ls st h = zgo 40 (zpure (.iload 4) 48 0 [] ls st h)) ∧
  (∀ (ls : zL) (st : zS) (h : zH), zx 40 48 ls st h = zca 40 48 51 ls 36 2 5 (ztake 2 st) h) ∧
  (∀ (ls : zL) (st : zS) (h : zH), zx 40 51 ls st h = zgo 40 (zpure (.invokestatic 52) 54 0 [2] ls st h)) ∧
  (∀ (ls : zL) (st : zS) (h : zH), zx 40 54 ls st h = zgo 40 (zpure (.istore 6) 56 0 [] ls st h)) ∧
  (∀ (ls : zL) (st : zS) (h : zH), zx 40 56 ls st h = zgo 40 (zpure (.iload 5) 58 0 [] ls st h)) ∧
  (∀ (ls : zL) (st : zS) (h : zH), zx 40 58 ls st h = zgo 40 (zpure (.iload 6) 60 0 [] ls st h)) ∧
  (∀ (ls : zL) (st : zS) (h : zH), zx 40 60 ls st h = zgo 40 (zpure (.if_icmp .ge 25) 63 85 [] ls st h)) ∧
  (∀ (ls : zL) (st : zS) (h : zH), zx 40 63 ls st h = zgo 40 (zpure (.aload_n 0) 64 0 [] ls st h)) ∧
  (∀ (ls : zL) (st : zS) (h : zH), zx 40 64 ls st h = zgo 40 (zpure (.iload_n 3) 65 0 [] ls st h)) ∧
  (∀ (ls : zL) (st : zS) (h : zH), zx 40 65 ls st h = zca 40 65 68 ls 34 2 5 (ztake 2 st) h) ∧
  (∀ (ls : zL) (st : zS) (h : zH), zx 40 68 ls st h = zgo 40 (zpure (.aload_n 1) 69 0 [] ls st h)) ∧
  (∀ (ls : zL) (st : zS) (h : zH), zx 40 69 ls st h = zgo 40 (zpure (.iload 4) 71 0 [] ls st h)) ∧
  (∀ (ls : zL) (st : zS) (h : zH), zx 40 71 ls st h = zca 40 71 74 ls 34 2 5 (ztake 2 st) h) ∧
  (∀ (ls : zL) (st : zS) (h : zH), zx 40 74 ls st h = zgo 40 (zpure (.if_icmp .eq 11) 77 85 [] ls st h)) ∧
  (∀ (ls : zL) (st : zS) (h : zH), zx 40 77 ls st h = zgo 40 (zpure (.iload_n 2) 78 0 [] ls st h)) ∧
  (∀ (ls : zL) (st : zS) (h : zH), zx 40 78 ls st h = zgo 40 (zpure (.iload 6) 80 0 [] ls st h)) ∧
  (∀ (ls : zL) (st : zS) (h : zH), zx 40 80 ls st h = zgo 40 (zpure (.iload 5) 82 0 [] ls st h)) ∧
  (∀ (ls : zL) (st : zS) (h : zH), zx 40 82 ls st h = zgo 40 (zpure .isub 83 0 [] ls st h)) ∧
  (∀ (ls : zL) (st : zS) (h : zH), zx 40 83 ls st h = zgo 40 (zpure .iadd 84 0 [] ls st h)) ∧
  (∀ (ls : zL) (st : zS) (h : zH), zx 40 84 ls st h = zgo 40 (zpure (.istore_n 2) 85 0 [] ls st h)) ∧
  (∀ (ls : zL) (st : zS) (h : zH), zx 40 85 ls st h = zgo 40 (zpure (.aload_n 0) 86 0 [] ls st h)) ∧
  (∀ (ls : zL) (st : zS) (h : zH), zx 40 86 ls st h = zgo 40 (zpure (.iload_n 3) 87 0 [] ls st h)) ∧
  (∀ (ls : zL) (st : zS) (h : zH), zx 40 87 ls st h = zca 40 87 90 ls 36 2 5 (ztake 2 st) h) ∧
  (∀ (ls : zL) (st : zS) (h : zH), zx 40 90 ls st h = zgo 40 (zpure (.iload 6) 92 0 [] ls st h)) ∧
  (∀ (ls : zL) (st : zS) (h : zH), zx 40 92 ls st h = zgo 40 (zpure (.if_icmp .gt 9) 95 101 [] ls st h)) ∧
  (∀ (ls : zL) (st : zS) (h : zH), zx 40 95 ls st h = zgo 40 (zpure (.iinc 3 1) 98 0 [] ls st h)) ∧
  (∀ (ls : zL) (st : zS) (h : zH), zx 40 98 ls st h = zgo 40 (zpure (.goto 6) 101 104 [] ls st h)) ∧
  (∀ (ls : zL) (st : zS) (h : zH), zx 40 101 ls st h = zgo 40 (zpure (.iinc 4 1) 104 0 [] ls st h)) ∧
  (∀ (ls : zL) (st : zS) (h : zH), zx 40 104 ls st h = zgo 40 (zpure (.goto (-97)) 107 7 [] ls st h)) ∧
  (∀ (ls : zL) (st : zS) (h : zH), zx 40 107 ls st h = zgo 40 (zpure (.iload_n 2) 108 0 [] ls st h)) ∧
  (∀ (ls : zL) (st : zS) (h : zH), zx 40 108 ls st h = zret 0 st h) :=
  ⟨zx_0 rfl, zx_0 rfl, zx_0 rfl, zx_0 rfl, zx_0 rfl, zx_0 rfl, zx_0 rfl, zx_0 rfl, zx_0 rfl, zx_0 rfl, zx_0 rfl, zx_0 rfl, zx_0 rfl, zx_0 rfl, zx_0 rfl, zx_2c rfl, zx_0 rfl, zx_0 rfl, zx_2c rfl, zx_0 rfl, zx_0 rfl, zx_0 rfl, zx_0 rfl, zx_2c rfl, zx_0 rfl, zx_0 rfl, zx_2c rfl, zx_0 rfl, zx_0 rfl, zx_0 rfl, zx_0 rfl, zx_0 rfl, zx_0 rfl, zx_0 rfl, zx_2c rfl, zx_0 rfl, zx_0 rfl, zx_2c rfl, zx_0 rfl, zx_0 rfl, zx_0 rfl, zx_0 rfl, zx_0 rfl, zx_0 rfl, zx_0 rfl, zx_0 rfl, zx_0 rfl, zx_2c rfl, zx_0 rfl, zx_0 rfl, zx_0 rfl, zx_0 rfl, zx_0 rfl, zx_0 rfl, zx_0 rfl, zx_1 rfl⟩
/-- X5_init -/
theorem z41 :
  (∀ (ls : zL) (st : zS) (h : zH), zx 41 0 ls st h = zgo 41 (zpure (.aload_n 0) 1 0 [] ls st h)) ∧
  (∀ (ls : zL) (st : zS) (h : zH), zx 41 1 ls st h = zgo 41 (zpure (.invokespecial 3) 4 0 [] ls st h)) ∧
  (∀ (ls : zL) (st : zS) (h : zH), zx 41 4 ls st h = zgo 41 (zpure (.aload_n 0) 5 0 [] ls st h)) ∧
  (∀ (ls : zL) (st : zS) (h : zH), zx 41 5 ls st h = zgo 41 (zpure (.new 9) 8 0 [7, 3] ls st h)) ∧
  (∀ (ls : zL) (st : zS) (h : zH), zx 41 8 ls st h = zgo 41 (zpure .dup 9 0 [] ls st h)) ∧
  (∀ (ls : zL) (st : zS) (h : zH), zx 41 9 ls st h = zca 41 9 12 ls 164 1 100 (ztake 1 st) h) ∧
  (∀ (ls : zL) (st : zS) (h : zH), zx 41 12 ls st h = zgo 41 (zpure (.putfield 12) 15 0 [5, 0, 7] ls st h)) ∧
  (∀ (ls : zL) (st : zS) (h : zH), zx 41 15 ls st h = zgo 41 (zpure (.aload_n 0) 16 0 [] ls st h)) ∧
  (∀ (ls : zL) (st : zS) (h : zH), zx 41 16 ls st h = zgo 41 (zpure (.new 9) 19 0 [7, 3] ls st h)) ∧
  (∀ (ls : zL) (st : zS) (h : zH), zx 41 19 ls st h = zgo 41 (zpure .dup 20 0 [] ls st h)) ∧
  (∀ (ls : zL) (st : zS) (h : zH), zx 41 20 ls st h = zca 41 20 23 ls 164 1 100 (ztake 1 st) h) ∧
  (∀ (ls : zL) (st : zS) (h : zH), zx 41 23 ls st h = zgo 41 (zpure (.putfield 16) 26 0 [5, 1, 7] ls st h)) ∧
  (∀ (ls : zL) (st : zS) (h : zH), zx 41 26 ls st h = zgo 41 (zpure (.aload_n 0) 27 0 [] ls st h)) ∧
  (∀ (ls : zL) (st : zS) (h : zH), zx 41 27 ls st h = zgo 41 (zpure (.new 19) 30 0 [4, 4] ls st h)) ∧
  (∀ (ls : zL) (st : zS) (h : zH), zx 41 30 ls st h = zgo 41 (zpure .dup 31 0 [] ls st h)) ∧
  (∀ (ls : zL) (st : zS) (h : zH), zx 41 31 ls st h = zca 41 31 34 ls 28 1 100 (ztake 1 st) h) ∧
  (∀ (ls : zL) (st : zS) (h : zH), zx 41 34 ls st h = zgo 41 (zpure (.putfield 22) 37 0 [5, 2, 7] ls st h)) ∧
  (∀ (ls : zL) (st : zS) (h : zH), zx 41 37 ls st h = zgo 41 (zpure (.aload_n 0) 38 0 [] ls st h)) ∧
  (∀ (ls : zL) (st : zS) (h : zH), zx 41 38 ls st h = zgo 41 (zpure (.new 19) 41 0 [4, 4] ls st h)) ∧
  (∀ (ls : zL) (st : zS) (h : zH), zx 41 41 ls st h = zgo 41 (zpure .dup 42 0 [] ls st h)) ∧
  (∀ (ls : zL) (st : zS) (h : zH), zx 41 42 ls st h = zca 41 42 45 ls 28 1 100 (ztake 1 st) h) ∧
  (∀ (ls : zL) (st : zS) (h : zH), zx 41 45 ls st h = zgo 41 (zpure (.putfield 26) 48 0 [5, 3, 7] ls st h)) ∧
  (∀ (ls : zL) (st : zS) (h : zH), zx 41 48 ls st h = zgo 41 (zpure (.aload_n 0) 49 0 [] ls st h)) ∧
  (∀ (ls : zL) (st : zS) (h : zH), zx 41 49 ls st h = zgo 41 (zpure (.new 29) 52 0 [2, 11] ls st h)) ∧
  (∀ (ls : zL) (st : zS) (h : zH), zx 41 52 ls st h = zgo 41 (zpure .dup 53 0 [] ls st h)) ∧
  (∀ (ls : zL) (st : zS) (h : zH), zx 41 53 ls st h = zca 41 53 56 ls 8 1 100 (ztake 1 st) h) ∧
  (∀ (ls : zL) (st : zS) (h : zH), zx 41 56 ls st h = zgo 41 (zpure (.putfield 32) 59 0 [5, 4, 7] ls st h)) ∧
  (∀ (ls : zL) (st : zS) (h : zH), zx 41 59 ls st h = zgo 41 (zpure (.aload_n 0) 60 0 [] ls st h)) ∧
  (∀ (ls : zL) (st : zS) (h : zH), zx 41 60 ls st h = zgo 41 (zpure (.iconst 0) 61 0 [] ls st h)) ∧
  (∀ (ls : zL) (st : zS) (h : zH), zx 41 61 ls st h = zgo 41 (zpure (.putfield 36) 64 0 [5, 5, 0] ls st h)) ∧
  (∀ (ls : zL) (st : zS) (h : zH), zx 41 64 ls st h = zgo 41 (zpure (.aload_n 0) 65 0 [] ls st h)) ∧
  (∀ (ls : zL) (st : zS) (h : zH), zx 41 65 ls st h = zgo 41 (zpure (.iconst 0) 66 0 [] ls st h)) ∧
  (∀ (ls : zL) (st : zS) (h : zH), zx 41 66 ls st h = zgo 41 (zpure (.putfield 40) 69 0 [5, 6, 1] ls st h)) ∧
  (∀ (ls : zL) (st : zS) (h : zH), zx 41 69 ls st h = zgo 41 (zpure (.aload_n 0) 70 0 [] ls st h)) ∧
  (∀ (ls : zL) (st : zS) (h : zH), zx 41 70 ls st h = zgo 41 (zpure (.iconst 0) 71 0 [] ls st h)) ∧
  (∀ (ls : zL) (st : zS) (h : zH), zx 41 71 ls st h = zgo 41 (zpure (.putfield 44) 74 0 [5, 7, 1] ls st h)) ∧
  (∀ (ls : zL) (st : zS) (h : zH), zx 41 74 ls st h = zret 8 st h) :=
  ⟨zx_0 rfl, zx_0 rfl, zx_0 rfl, zx_0 rfl, zx_0 rfl, zx_2c rfl, zx_0 rfl, zx_0 rfl, zx_0 rfl, zx_0 rfl, zx_2c rfl, zx_0 rfl, zx_0 rfl, zx_0 rfl, zx_0 rfl, zx_2c rfl, zx_0 rfl, zx_0 rfl, zx_0 rfl, zx_0 rfl, zx_2c rfl, zx_0 rfl, zx_0 rfl, zx_0 rfl, zx_0 rfl, zx_2c rfl, zx_0 rfl, zx_0 rfl, zx_0 rfl, zx_0 rfl, zx_0 rfl, zx_0 rfl, zx_0 rfl, zx_0 rfl, zx_0 rfl, zx_0 rfl, zx_1 rfl⟩
/-- X5_addProgramme -/
theorem z42 :
  (∀ (ls : zL) (st : zS) (h : zH), zx 42 0 ls st h = zgo 42 (zpure (.iload_n 1) 1 0 [] ls st h)) ∧
  (∀ (ls : zL) (st : zS) (h : zH), zx 42 1 ls st h = zgo 42 (zpure (.iload_n 2) 2 0 [] ls st h)) ∧
  (∀ (ls : zL) (st : zS) (h : zH), zx 42 2 ls st h = zgo 42 (zpure (.iload 4) 4 0 [] ls st h)) ∧
  (∀ (ls : zL) (st : zS) (h : zH), zx 42 4 ls st h = zgo 42 (zpure (.iload 5) 6 0 [] ls st h)) ∧
  (∀ (ls : zL) (st : zS) (h : zH), zx 42 6 ls st h = zca 42 6 9 ls 78 4 0 (ztake 4 st) h) ∧
  (∀ (ls : zL) (st : zS) (h : zH), zx 42 9 ls st h = zgo 42 (zpure (.iload_n 3) 10 0 [] ls st h)) ∧
  (∀ (ls : zL) (st : zS) (h : zH), zx 42 10 ls st h = zgo 42 (zpure (.ifCond .lt 9) 13 19 [] ls st h)) ∧
  (∀ (ls : zL) (st : zS) (h : zH), zx 42 13 ls st h = zgo 42 (zpure (.iload_n 3) 14 0 [] ls st h)) ∧
  (∀ (ls : zL) (st : zS) (h : zH), zx 42 14 ls st h = zgo 42 (zpure (.bipush 99) 16 0 [] ls st h)) ∧
  (∀ (ls : zL) (st : zS) (h : zH), zx 42 16 ls st h = zgo 42 (zpure (.if_icmp .le 13) 19 29 [] ls st h)) ∧
  (∀ (ls : zL) (st : zS) (h : zH), zx 42 19 ls st h = (if st.length ≤ 4 then some (.inr 0, zchg h 1 6) else none)) ∧
  (∀ (ls : zL) (st : zS) (h : zH), zx 42 29 ls st h = zgo 42 (zpure (.aload_n 0) 30 0 [] ls st h)) ∧
  (∀ (ls : zL) (st : zS) (h : zH), zx 42 30 ls st h = zca 42 30 33 ls 79 1 6 (ztake 1 st) h) ∧
  (∀ (ls : zL) (st : zS) (h : zH), zx 42 33 ls st h = zgo 42 (zpure (.aload_n 0) 34 0 [] ls st h)) ∧
  (∀ (ls : zL) (st : zS) (h : zH), zx 42 34 ls st h = zgo 42 (zpure (.getfield 12) 37 0 [5, 0] ls st h)) ∧
  (∀ (ls : zL) (st : zS) (h : zH), zx 42 37 ls st h = zca 42 37 40 ls 175 1 8 (ztake 1 st) h) ∧
  (∀ (ls : zL) (st : zS) (h : zH), zx 42 40 ls st h = zgo 42 (zpure (.istore 6) 42 0 [] ls st h)) ∧
  (∀ (ls : zL) (st : zS) (h : zH), zx 42 42 ls st h = zgo 42 (zpure (.aload_n 0) 43 0 [] ls st h)) ∧
  (∀ (ls : zL) (st : zS) (h : zH), zx 42 43 ls st h = zgo 42 (zpure (.getfield 12) 46 0 [5, 0] ls st h)) ∧
  (∀ (ls : zL) (st : zS) (h : zH), zx 42 46 ls st h = zgo 42 (zpure (.new 65) 49 0 [0, 8] ls st h)) ∧
  (∀ (ls : zL) (st : zS) (h : zH), zx 42 49 ls st h = zgo 42 (zpure .dup 50 0 [] ls st h)) ∧
  (∀ (ls : zL) (st : zS) (h : zH), zx 42 50 ls st h = zgo 42 (zpure (.iload 6) 52 0 [] ls st h)) ∧
  (∀ (ls : zL) (st : zS) (h : zH), zx 42 52 ls st h = zgo 42 (zpure (.iconst 0) 53 0 [] ls st h)) ∧
  (∀ (ls : zL) (st : zS) (h : zH), zx 42 53 ls st h = zgo 42 (zpure (.iload_n 1) 54 0 [] ls st h)) ∧
  (∀ (ls : zL) (st : zS) (h : zH), zx 42 54 ls st h = zgo 42 (zpure (.iload_n 2) 55 0 [] ls st h)) ∧
  (∀ (ls : zL) (st : zS) (h : zH), zx 42 55 ls st h = zgo 42 (zpure (.iload_n 3) 56 0 [] ls st h)) ∧
  (∀ (ls : zL) (st : zS) (h : zH), zx 42 56 ls st h = zgo 42 (zpure (.iload 4) 58 0 [] ls st h)) ∧
  (∀ (ls : zL) (st : zS) (h : zH), zx 42 58 ls st h = zgo 42 (zpure (.iload 5) 60 0 [] ls st h)) ∧
  (∀ (ls : zL) (st : zS) (h : zH), zx 42 60 ls st h = zca 42 60 63 ls 0 8 100 (ztake 8 st) h) ∧
  (∀ (ls : zL) (st : zS) (h : zH), zx 42 63 ls st h = zca 42 63 66 ls 165 2 8 (ztake 2 st) h) ∧
  (∀ (ls : zL) (st : zS) (h : zH), zx 42 66 ls st h = zgo 42 (zpure .pop 67 0 [] ls st h)) ∧
  (∀ (ls : zL) (st : zS) (h : zH), zx 42 67 ls st h = zgo 42 (zpure (.iload 6) 69 0 [] ls st h)) ∧
  (∀ (ls : zL) (st : zS) (h : zH), zx 42 69 ls st h = zret 0 st h) :=
  ⟨zx_0 rfl, zx_0 rfl, zx_0 rfl, zx_0 rfl, zx_2c rfl, zx_0 rfl, zx_0 rfl, zx_0 rfl, zx_0 rfl, zx_0 rfl, zx_3c rfl rfl, zx_0 rfl, zx_2c rfl, zx_0 rfl, zx_0 rfl, zx_2c rfl, zx_0 rfl, zx_0 rfl, zx_0 rfl, zx_0 rfl, zx_0 rfl, zx_0 rfl, zx_0 rfl, zx_0 rfl, zx_0 rfl, zx_0 rfl, zx_0 rfl, zx_0 rfl, zx_2c rfl, zx_2c rfl, zx_0 rfl, zx_0 rfl, zx_1 rfl⟩
/-- X5_addPiece -/
theorem z43 :
  (∀ (ls : zL) (st : zS) (h : zH), zx 43 0 ls st h = zgo 43 (zpure (.iload_n 1) 1 0 [] ls st h)) ∧
  (∀ (ls : zL) (st : zS) (h : zH), zx 43 1 ls st h = zgo 43 (zpure (.iload_n 2) 2 0 [] ls st h)) ∧
  (∀ (ls : zL) (st : zS) (h : zH), zx 43 2 ls st h = zgo 43 (zpure (.iload_n 3) 3 0 [] ls st h)) ∧
  (∀ (ls : zL) (st : zS) (h : zH), zx 43 3 ls st h = zgo 43 (zpure (.iload 4) 5 0 [] ls st h)) ∧
  (∀ (ls : zL) (st : zS) (h : zH), zx 43 5 ls st h = zca 43 5 8 ls 78 4 0 (ztake 4 st) h) ∧
  (∀ (ls : zL) (st : zS) (h : zH), zx 43 8 ls st h = zgo 43 (zpure (.aload_n 0) 9 0 [] ls st h)) ∧
  (∀ (ls : zL) (st : zS) (h : zH), zx 43 9 ls st h = zca 43 9 12 ls 79 1 6 (ztake 1 st) h) ∧
  (∀ (ls : zL) (st : zS) (h : zH), zx 43 12 ls st h = zgo 43 (zpure (.aload_n 0) 13 0 [] ls st h)) ∧
  (∀ (ls : zL) (st : zS) (h : zH), zx 43 13 ls st h = zca 43 13 16 ls 90 3 6 (ztake 1 st) h) ∧
  (∀ (ls : zL) (st : zS) (h : zH), zx 43 16 ls st h = zgo 43 (zpure (.bipush 8) 18 0 [] ls st h)) ∧
  (∀ (ls : zL) (st : zS) (h : zH), zx 43 18 ls st h = zgo 43 (zpure (.if_icmp .lt 13) 21 31 [] ls st h)) ∧
  (∀ (ls : zL) (st : zS) (h : zH), zx 43 21 ls st h = (if st.length ≤ 4 then some (.inr 1, zchg h 1 6) else none)) ∧
  (∀ (ls : zL) (st : zS) (h : zH), zx 43 31 ls st h = zgo 43 (zpure (.aload_n 0) 32 0 [] ls st h)) ∧
  (∀ (ls : zL) (st : zS) (h : zH), zx 43 32 ls st h = zgo 43 (zpure (.getfield 12) 35 0 [5, 0] ls st h)) ∧
  (∀ (ls : zL) (st : zS) (h : zH), zx 43 35 ls st h = zca 43 35 38 ls 175 1 8 (ztake 1 st) h) ∧
  (∀ (ls : zL) (st : zS) (h : zH), zx 43 38 ls st h = zgo 43 (zpure (.istore 5) 40 0 [] ls st h)) ∧
  (∀ (ls : zL) (st : zS) (h : zH), zx 43 40 ls st h = zgo 43 (zpure (.aload_n 0) 41 0 [] ls st h)) ∧
  (∀ (ls : zL) (st : zS) (h : zH), zx 43 41 ls st h = zgo 43 (zpure (.getfield 12) 44 0 [5, 0] ls st h)) ∧
  (∀ (ls : zL) (st : zS) (h : zH), zx 43 44 ls st h = zgo 43 (zpure (.new 65) 47 0 [0, 8] ls st h)) ∧
  (∀ (ls : zL) (st : zS) (h : zH), zx 43 47 ls st h = zgo 43 (zpure .dup 48 0 [] ls st h)) ∧
  (∀ (ls : zL) (st : zS) (h : zH), zx 43 48 ls st h = zgo 43 (zpure (.iload 5) 50 0 [] ls st h)) ∧
  (∀ (ls : zL) (st : zS) (h : zH), zx 43 50 ls st h = zgo 43 (zpure (.iconst 1) 51 0 [] ls st h)) ∧
  (∀ (ls : zL) (st : zS) (h : zH), zx 43 51 ls st h = zgo 43 (zpure (.iload_n 1) 52 0 [] ls st h)) ∧
  (∀ (ls : zL) (st : zS) (h : zH), zx 43 52 ls st h = zgo 43 (zpure (.iload_n 2) 53 0 [] ls st h)) ∧
  (∀ (ls : zL) (st : zS) (h : zH), zx 43 53 ls st h = zgo 43 (zpure (.iconst 0) 54 0 [] ls st h)) ∧
  (∀ (ls : zL) (st : zS) (h : zH), zx 43 54 ls st h = zgo 43 (zpure (.iload_n 3) 55 0 [] ls st h)) ∧
  (∀ (ls : zL) (st : zS) (h : zH), zx 43 55 ls st h = zgo 43 (zpure (.iload 4) 57 0 [] ls st h)) ∧
  (∀ (ls : zL) (st : zS) (h : zH), zx 43 57 ls st h = zca 43 57 60 ls 0 8 100 (ztake 8 st) h) ∧
  (∀ (ls : zL) (st : zS) (h : zH), zx 43 60 ls st h = zca 43 60 63 ls 165 2 8 (ztake 2 st) h) ∧
  (∀ (ls : zL) (st : zS) (h : zH), zx 43 63 ls st h = zgo 43 (zpure .pop 64 0 [] ls st h)) ∧
  (∀ (ls : zL) (st : zS) (h : zH), zx 43 64 ls st h = zgo 43 (zpure (.aload_n 0) 65 0 [] ls st h)) ∧
  (∀ (ls : zL) (st : zS) (h : zH), zx 43 65 ls st h = zgo 43 (zpure (.getfield 32) 68 0 [5, 4] ls st h)) ∧
  (∀ (ls : zL) (st : zS) (h : zH), zx 43 68 ls st h = zgo 43 (zpure (.aload_n 0) 69 0 [] ls st h)) ∧
  (∀ (ls : zL) (st : zS) (h : zH), zx 43 69 ls st h = zgo 43 (zpure (.getfield 12) 72 0 [5, 0] ls st h)) ∧
  (∀ (ls : zL) (st : zS) (h : zH), zx 43 72 ls st h = zgo 43 (zpure (.aload_n 0) 73 0 [] ls st h)) ∧
  (∀ (ls : zL) (st : zS) (h : zH), zx 43 73 ls st h = zgo 43 (zpure (.getfield 36) 76 0 [5, 5] ls st h)) ∧
  (∀ (ls : zL) (st : zS) (h : zH), zx 43 76 ls st h = zca 43 76 79 ls 9 7 3 (ztake 3 st) h) ∧
  (∀ (ls : zL) (st : zS) (h : zH), zx 43 79 ls st h = zgo 43 (zpure (.aload_n 0) 80 0 [] ls st h)) ∧
  (∀ (ls : zL) (st : zS) (h : zH), zx 43 80 ls st h = zgo 43 (zpure (.iconst 0) 81 0 [] ls st h)) ∧
  (∀ (ls : zL) (st : zS) (h : zH), zx 43 81 ls st h = zgo 43 (zpure (.putfield 40) 84 0 [5, 6, 1] ls st h)) ∧
  (∀ (ls : zL) (st : zS) (h : zH), zx 43 84 ls st h = zgo 43 (zpure (.iload 5) 86 0 [] ls st h)) ∧
  (∀ (ls : zL) (st : zS) (h : zH), zx 43 86 ls st h = zret 0 st h) :=
  ⟨zx_0 rfl, zx_0 rfl, zx_0 rfl, zx_0 rfl, zx_2c rfl, zx_0 rfl, zx_2c rfl, zx_0 rfl, zx_2c rfl, zx_0 rfl, zx_0 rfl, zx_3c rfl rfl, zx_0 rfl, zx_0 rfl, zx_2c rfl, zx_0 rfl, zx_0 rfl, zx_0 rfl, zx_0 rfl, zx_0 rfl, zx_0 rfl, zx_0 rfl, zx_0 rfl, zx_0 rfl, zx_0 rfl, zx_0 rfl, zx_0 rfl, zx_2c rfl, zx_2c rfl, zx_0 rfl, zx_0 rfl, zx_0 rfl, zx_0 rfl, zx_0 rfl, zx_0 rfl, zx_0 rfl, zx_2c rfl, zx_0 rfl, zx_0 rfl, zx_0 rfl, zx_0 rfl, zx_1 rfl⟩
/-- X5_plays -/
theorem z44 :
  (∀ (ls : zL) (st : zS) (h : zH), zx 44 0 ls st h = zgo 44 (zpure (.aload_n 0) 1 0 [] ls st h)) ∧
  (∀ (ls : zL) (st : zS) (h : zH), zx 44 1 ls st h = zgo 44 (zpure (.iload_n 1) 2 0 [] ls st h)) ∧
  (∀ (ls : zL) (st : zS) (h : zH), zx 44 2 ls st h = zca 44 2 5 ls 86 3 6 (ztake 2 st) h) ∧
  (∀ (ls : zL) (st : zS) (h : zH), zx 44 5 ls st h = zgo 44 (zpure (.getfield 90) 8 0 [0, 6] ls st h)) ∧
  (∀ (ls : zL) (st : zS) (h : zH), zx 44 8 ls st h = zret 0 st h) :=
  ⟨zx_0 rfl, zx_0 rfl, zx_2c rfl, zx_0 rfl, zx_1 rfl⟩
/-- X5_addPlays -/
theorem z45 :
  (∀ (ls : zL) (st : zS) (h : zH), zx 45 0 ls st h = zgo 45 (zpure (.aload_n 0) 1 0 [] ls st h)) ∧
  (∀ (ls : zL) (st : zS) (h : zH), zx 45 1 ls st h = zgo 45 (zpure (.iload_n 1) 2 0 [] ls st h)) ∧
  (∀ (ls : zL) (st : zS) (h : zH), zx 45 2 ls st h = zca 45 2 5 ls 86 3 6 (ztake 2 st) h) ∧
  (∀ (ls : zL) (st : zS) (h : zH), zx 45 5 ls st h = zgo 45 (zpure (.astore_n 3) 6 0 [] ls st h)) ∧
  (∀ (ls : zL) (st : zS) (h : zH), zx 45 6 ls st h = zgo 45 (zpure (.iload_n 2) 7 0 [] ls st h)) ∧
  (∀ (ls : zL) (st : zS) (h : zH), zx 45 7 ls st h = zgo 45 (zpure (.iconst 1) 8 0 [] ls st h)) ∧
  (∀ (ls : zL) (st : zS) (h : zH), zx 45 8 ls st h = zgo 45 (zpure (.if_icmp .lt 9) 11 17 [] ls st h)) ∧
  (∀ (ls : zL) (st : zS) (h : zH), zx 45 11 ls st h = zgo 45 (zpure (.iload_n 2) 12 0 [] ls st h)) ∧
  (∀ (ls : zL) (st : zS) (h : zH), zx 45 12 ls st h = zgo 45 (zpure (.bipush 99) 14 0 [] ls st h)) ∧
  (∀ (ls : zL) (st : zS) (h : zH), zx 45 14 ls st h = zgo 45 (zpure (.if_icmp .le 13) 17 27 [] ls st h)) ∧
  (∀ (ls : zL) (st : zS) (h : zH), zx 45 17 ls st h = (if st.length ≤ 4 then some (.inr 0, zchg h 1 6) else none)) ∧
  (∀ (ls : zL) (st : zS) (h : zH), zx 45 27 ls st h = zgo 45 (zpure (.aload_n 3) 28 0 [] ls st h)) ∧
  (∀ (ls : zL) (st : zS) (h : zH), zx 45 28 ls st h = zgo 45 (zpure .dup 29 0 [] ls st h)) ∧
  (∀ (ls : zL) (st : zS) (h : zH), zx 45 29 ls st h = zgo 45 (zpure (.getfield 90) 32 0 [0, 6] ls st h)) ∧
  (∀ (ls : zL) (st : zS) (h : zH), zx 45 32 ls st h = zgo 45 (zpure (.iload_n 2) 33 0 [] ls st h)) ∧
  (∀ (ls : zL) (st : zS) (h : zH), zx 45 33 ls st h = zgo 45 (zpure .iadd 34 0 [] ls st h)) ∧
  (∀ (ls : zL) (st : zS) (h : zH), zx 45 34 ls st h = zgo 45 (zpure (.putfield 90) 37 0 [0, 6, 0] ls st h)) ∧
  (∀ (ls : zL) (st : zS) (h : zH), zx 45 37 ls st h = zgo 45 (zpure (.aload_n 0) 38 0 [] ls st h)) ∧
  (∀ (ls : zL) (st : zS) (h : zH), zx 45 38 ls st h = zgo 45 (zpure (.iconst 0) 39 0 [] ls st h)) ∧
  (∀ (ls : zL) (st : zS) (h : zH), zx 45 39 ls st h = zgo 45 (zpure (.putfield 40) 42 0 [5, 6, 1] ls st h)) ∧
  (∀ (ls : zL) (st : zS) (h : zH), zx 45 42 ls st h = zgo 45 (zpure (.aload_n 3) 43 0 [] ls st h)) ∧
  (∀ (ls : zL) (st : zS) (h : zH), zx 45 43 ls st h = zgo 45 (zpure (.getfield 90) 46 0 [0, 6] ls st h)) ∧
  (∀ (ls : zL) (st : zS) (h : zH), zx 45 46 ls st h = zret 0 st h) :=
  ⟨zx_0 rfl, zx_0 rfl, zx_2c rfl, zx_0 rfl, zx_0 rfl, zx_0 rfl, zx_0 rfl, zx_0 rfl, zx_0 rfl, zx_0 rfl, zx_3c rfl rfl, zx_0 rfl, zx_0 rfl, zx_0 rfl, zx_0 rfl, zx_0 rfl, zx_0 rfl, zx_0 rfl, zx_0 rfl, zx_0 rfl, zx_0 rfl, zx_0 rfl, zx_1 rfl⟩
/-- X5_insert -/
theorem z46 :
  (∀ (ls : zL) (st : zS) (h : zH), zx 46 0 ls st h = zgo 46 (zpure (.iload_n 1) 1 0 [] ls st h)) ∧
  (∀ (ls : zL) (st : zS) (h : zH), zx 46 1 ls st h = zgo 46 (zpure (.ifCond .lt 14) 4 15 [] ls st h)) ∧
  (∀ (ls : zL) (st : zS) (h : zH), zx 46 4 ls st h = zgo 46 (zpure (.iload_n 1) 5 0 [] ls st h)) ∧
  (∀ (ls : zL) (st : zS) (h : zH), zx 46 5 ls st h = zgo 46 (zpure (.aload_n 0) 6 0 [] ls st h)) ∧
  (∀ (ls : zL) (st : zS) (h : zH), zx 46 6 ls st h = zgo 46 (zpure (.getfield 16) 9 0 [5, 1] ls st h)) ∧
  (∀ (ls : zL) (st : zS) (h : zH), zx 46 9 ls st h = zca 46 9 12 ls 175 1 8 (ztake 1 st) h) ∧
  (∀ (ls : zL) (st : zS) (h : zH), zx 46 12 ls st h = zgo 46 (zpure (.if_icmp .le 13) 15 25 [] ls st h)) ∧
  (∀ (ls : zL) (st : zS) (h : zH), zx 46 15 ls st h = (if st.length ≤ 4 then some (.inr 2, zchg h 1 6) else none)) ∧
  (∀ (ls : zL) (st : zS) (h : zH), zx 46 25 ls st h = zgo 46 (zpure (.aload_n 0) 26 0 [] ls st h)) ∧
  (∀ (ls : zL) (st : zS) (h : zH), zx 46 26 ls st h = zgo 46 (zpure (.iload_n 2) 27 0 [] ls st h)) ∧
  (∀ (ls : zL) (st : zS) (h : zH), zx 46 27 ls st h = zca 46 27 30 ls 86 3 6 (ztake 2 st) h) ∧
  (∀ (ls : zL) (st : zS) (h : zH), zx 46 30 ls st h = zgo 46 (zpure (.astore 5) 32 0 [] ls st h)) ∧
  (∀ (ls : zL) (st : zS) (h : zH), zx 46 32 ls st h = zgo 46 (zpure (.iload_n 3) 33 0 [] ls st h)) ∧
  (∀ (ls : zL) (st : zS) (h : zH), zx 46 33 ls st h = zgo 46 (zpure (.bipush 102) 35 0 [] ls st h)) ∧
  (∀ (ls : zL) (st : zS) (h : zH), zx 46 35 ls st h = zgo 46 (zpure (.if_icmp .eq 31) 38 66 [] ls st h)) ∧
  (∀ (ls : zL) (st : zS) (h : zH), zx 46 38 ls st h = zgo 46 (zpure (.iload_n 3) 39 0 [] ls st h)) ∧
  (∀ (ls : zL) (st : zS) (h : zH), zx 46 39 ls st h = zgo 46 (zpure (.bipush 99) 41 0 [] ls st h)) ∧
  (∀ (ls : zL) (st : zS) (h : zH), zx 46 41 ls st h = zgo 46 (zpure (.if_icmp .eq 25) 44 66 [] ls st h)) ∧
  (∀ (ls : zL) (st : zS) (h : zH), zx 46 44 ls st h = zgo 46 (zpure (.iload_n 3) 45 0 [] ls st h)) ∧
  (∀ (ls : zL) (st : zS) (h : zH), zx 46 45 ls st h = zgo 46 (zpure (.bipush 112) 47 0 [] ls st h)) ∧
  (∀ (ls : zL) (st : zS) (h : zH), zx 46 47 ls st h = zgo 46 (zpure (.if_icmp .eq 19) 50 66 [] ls st h)) ∧
  (∀ (ls : zL) (st : zS) (h : zH), zx 46 50 ls st h = zgo 46 (zpure (.iload_n 3) 51 0 [] ls st h)) ∧
  (∀ (ls : zL) (st : zS) (h : zH), zx 46 51 ls st h = zgo 46 (zpure (.bipush 106) 53 0 [] ls st h)) ∧
  (∀ (ls : zL) (st : zS) (h : zH), zx 46 53 ls st h = zgo 46 (zpure (.if_icmp .eq 13) 56 66 [] ls st h)) ∧
  (∀ (ls : zL) (st : zS) (h : zH), zx 46 56 ls st h = (if st.length ≤ 4 then some (.inr 0, zchg h 1 6) else none)) ∧
  (∀ (ls : zL) (st : zS) (h : zH), zx 46 66 ls st h = zgo 46 (zpure (.iload_n 3) 67 0 [] ls st h)) ∧
  (∀ (ls : zL) (st : zS) (h : zH), zx 46 67 ls st h = zgo 46 (zpure (.bipush 102) 69 0 [] ls st h)) ∧
  (∀ (ls : zL) (st : zS) (h : zH), zx 46 69 ls st h = zgo 46 (zpure (.if_icmp .eq 26) 72 95 [] ls st h)) ∧
  (∀ (ls : zL) (st : zS) (h : zH), zx 46 72 ls st h = zgo 46 (zpure (.iload 4) 74 0 [] ls st h)) ∧
  (∀ (ls : zL) (st : zS) (h : zH), zx 46 74 ls st h = zgo 46 (zpure (.ifCond .lt 11) 77 85 [] ls st h)) ∧
  (∀ (ls : zL) (st : zS) (h : zH), zx 46 77 ls st h = zgo 46 (zpure (.iload 4) 79 0 [] ls st h)) ∧
  (∀ (ls : zL) (st : zS) (h : zH), zx 46 79 ls st h = zgo 46 (zpure (.sipush 3600) 82 0 [] ls st h)) ∧
  (∀ (ls : zL) (st : zS) (h : zH), zx 46 82 ls st h = zgo 46 (zpure (.if_icmp .lt 13) 85 95 [] ls st h)) ∧
  (∀ (ls : zL) (st : zS) (h : zH), zx 46 85 ls st h = (if st.length ≤ 4 then some (.inr 0, zchg h 1 6) else none)) ∧
  (∀ (ls : zL) (st : zS) (h : zH), zx 46 95 ls st h = zgo 46 (zpure (.aload_n 0) 96 0 [] ls st h)) ∧
  (∀ (ls : zL) (st : zS) (h : zH), zx 46 96 ls st h = zgo 46 (zpure (.getfield 16) 99 0 [5, 1] ls st h)) ∧
  (∀ (ls : zL) (st : zS) (h : zH), zx 46 99 ls st h = zca 46 99 102 ls 175 1 8 (ztake 1 st) h) ∧
  (∀ (ls : zL) (st : zS) (h : zH), zx 46 102 ls st h = zgo 46 (zpure (.bipush 12) 104 0 [] ls st h)) ∧
  (∀ (ls : zL) (st : zS) (h : zH), zx 46 104 ls st h = zgo 46 (zpure (.if_icmp .lt 13) 107 117 [] ls st h)) ∧
  (∀ (ls : zL) (st : zS) (h : zH), zx 46 107 ls st h = (if st.length ≤ 4 then some (.inr 1, zchg h 1 6) else none)) ∧
  (∀ (ls : zL) (st : zS) (h : zH), zx 46 117 ls st h = zgo 46 (zpure (.aload_n 0) 118 0 [] ls st h)) ∧
  (∀ (ls : zL) (st : zS) (h : zH), zx 46 118 ls st h = zgo 46 (zpure (.getfield 16) 121 0 [5, 1] ls st h)) ∧
  (∀ (ls : zL) (st : zS) (h : zH), zx 46 121 ls st h = zgo 46 (zpure (.iload_n 1) 122 0 [] ls st h)) ∧
  (∀ (ls : zL) (st : zS) (h : zH), zx 46 122 ls st h = zgo 46 (zpure (.new 106) 125 0 [1, 10] ls st h)) ∧
  (∀ (ls : zL) (st : zS) (h : zH), zx 46 125 ls st h = zgo 46 (zpure .dup 126 0 [] ls st h)) ∧
  (∀ (ls : zL) (st : zS) (h : zH), zx 46 126 ls st h = zgo 46 (zpure (.aload 5) 128 0 [] ls st h)) ∧
  (∀ (ls : zL) (st : zS) (h : zH), zx 46 128 ls st h = zgo 46 (zpure (.iload_n 3) 129 0 [] ls st h)) ∧
  (∀ (ls : zL) (st : zS) (h : zH), zx 46 129 ls st h = zgo 46 (zpure (.iload 4) 131 0 [] ls st h)) ∧
  (∀ (ls : zL) (st : zS) (h : zH), zx 46 131 ls st h = zca 46 131 134 ls 2 4 100 (ztake 4 st) h) ∧
  (∀ (ls : zL) (st : zS) (h : zH), zx 46 134 ls st h = zca 46 134 137 ls 167 5 8 (ztake 3 st) h) ∧
  (∀ (ls : zL) (st : zS) (h : zH), zx 46 137 ls st h = zgo 46 (zpure (.aload_n 0) 138 0 [] ls st h)) ∧
  (∀ (ls : zL) (st : zS) (h : zH), zx 46 138 ls st h = zgo 46 (zpure (.iconst 0) 139 0 [] ls st h)) ∧
  (∀ (ls : zL) (st : zS) (h : zH), zx 46 139 ls st h = zgo 46 (zpure (.putfield 40) 142 0 [5, 6, 1] ls st h)) ∧
  (∀ (ls : zL) (st : zS) (h : zH), zx 46 142 ls st h = zgo 46 (zpure (.aload_n 0) 143 0 [] ls st h)) ∧
  (∀ (ls : zL) (st : zS) (h : zH), zx 46 143 ls st h = zgo 46 (zpure (.getfield 16) 146 0 [5, 1] ls st h)) ∧
  (∀ (ls : zL) (st : zS) (h : zH), zx 46 146 ls st h = zca 46 146 149 ls 175 1 8 (ztake 1 st) h) ∧
  (∀ (ls : zL) (st : zS) (h : zH), zx 46 149 ls st h = zret 0 st h) :=
  ⟨zx_0 rfl, zx_0 rfl, zx_0 rfl, zx_0 rfl, zx_0 rfl, zx_2c rfl, zx_0 rfl, zx_3c rfl rfl, zx_0 rfl, zx_0 rfl, zx_2c rfl, zx_0 rfl, zx_0 rfl, zx_0 rfl, zx_0 rfl, zx_0 rfl, zx_0 rfl, zx_0 rfl, zx_0 rfl, zx_0 rfl, zx_0 rfl, zx_0 rfl, zx_0 rfl, zx_0 rfl, zx_3c rfl rfl, zx_0 rfl, zx_0 rfl, zx_0 rfl, zx_0 rfl, zx_0 rfl, zx_0 rfl, zx_0 rfl, zx_0 rfl, zx_3c rfl rfl, zx_0 rfl, zx_0 rfl, zx_2c rfl, zx_0 rfl, zx_0 rfl, zx_3c rfl rfl, zx_0 rfl, zx_0 rfl, zx_0 rfl, zx_0 rfl, zx_0 rfl, zx_0 rfl, zx_0 rfl, zx_0 rfl, zx_2c rfl, zx_2c rfl, zx_0 rfl, zx_0 rfl, zx_0 rfl, zx_0 rfl, zx_0 rfl, zx_2c rfl, zx_1 rfl⟩
/-- X5_remove -/
theorem z47 :
  (∀ (ls : zL) (st : zS) (h : zH), zx 47 0 ls st h = zgo 47 (zpure (.aload_n 0) 1 0 [] ls st h)) ∧
  (∀ (ls : zL) (st : zS) (h : zH), zx 47 1 ls st h = zgo 47 (zpure (.iload_n 1) 2 0 [] ls st h)) ∧
  (∀ (ls : zL) (st : zS) (h : zH), zx 47 2 ls st h = zca 47 2 5 ls 81 2 6 (ztake 2 st) h) ∧
  (∀ (ls : zL) (st : zS) (h : zH), zx 47 5 ls st h = zgo 47 (zpure (.aload_n 0) 6 0 [] ls st h)) ∧
  (∀ (ls : zL) (st : zS) (h : zH), zx 47 6 ls st h = zgo 47 (zpure (.getfield 16) 9 0 [5, 1] ls st h)) ∧
  (∀ (ls : zL) (st : zS) (h : zH), zx 47 9 ls st h = zgo 47 (zpure (.iload_n 1) 10 0 [] ls st h)) ∧
  (∀ (ls : zL) (st : zS) (h : zH), zx 47 10 ls st h = zca 47 10 13 ls 173 4 8 (ztake 2 st) h) ∧
  (∀ (ls : zL) (st : zS) (h : zH), zx 47 13 ls st h = zgo 47 (zpure .pop 14 0 [] ls st h)) ∧
  (∀ (ls : zL) (st : zS) (h : zH), zx 47 14 ls st h = zgo 47 (zpure (.aload_n 0) 15 0 [] ls st h)) ∧
  (∀ (ls : zL) (st : zS) (h : zH), zx 47 15 ls st h = zgo 47 (zpure (.iconst 0) 16 0 [] ls st h)) ∧
  (∀ (ls : zL) (st : zS) (h : zH), zx 47 16 ls st h = zgo 47 (zpure (.putfield 40) 19 0 [5, 6, 1] ls st h)) ∧
  (∀ (ls : zL) (st : zS) (h : zH), zx 47 19 ls st h = zgo 47 (zpure (.aload_n 0) 20 0 [] ls st h)) ∧
  (∀ (ls : zL) (st : zS) (h : zH), zx 47 20 ls st h = zgo 47 (zpure (.getfield 16) 23 0 [5, 1] ls st h)) ∧
  (∀ (ls : zL) (st : zS) (h : zH), zx 47 23 ls st h = zca 47 23 26 ls 175 1 8 (ztake 1 st) h) ∧
  (∀ (ls : zL) (st : zS) (h : zH), zx 47 26 ls st h = zret 0 st h) :=
  ⟨zx_0 rfl, zx_0 rfl, zx_2c rfl, zx_0 rfl, zx_0 rfl, zx_0 rfl, zx_2c rfl, zx_0 rfl, zx_0 rfl, zx_0 rfl, zx_0 rfl, zx_0 rfl, zx_0 rfl, zx_2c rfl, zx_1 rfl⟩
/-- X5_move -/
theorem z48 :
  (∀ (ls : zL) (st : zS) (h : zH), zx 48 0 ls st h = zgo 48 (zpure (.aload_n 0) 1 0 [] ls st h)) ∧
  (∀ (ls : zL) (st : zS) (h : zH), zx 48 1 ls st h = zgo 48 (zpure (.iload_n 1) 2 0 [] ls st h)) ∧
  (∀ (ls : zL) (st : zS) (h : zH), zx 48 2 ls st h = zca 48 2 5 ls 81 2 6 (ztake 2 st) h) ∧
  (∀ (ls : zL) (st : zS) (h : zH), zx 48 5 ls st h = zgo 48 (zpure (.aload_n 0) 6 0 [] ls st h)) ∧
  (∀ (ls : zL) (st : zS) (h : zH), zx 48 6 ls st h = zgo 48 (zpure (.iload_n 2) 7 0 [] ls st h)) ∧
  (∀ (ls : zL) (st : zS) (h : zH), zx 48 7 ls st h = zca 48 7 10 ls 81 2 6 (ztake 2 st) h) ∧
  (∀ (ls : zL) (st : zS) (h : zH), zx 48 10 ls st h = zgo 48 (zpure (.aload_n 0) 11 0 [] ls st h)) ∧
  (∀ (ls : zL) (st : zS) (h : zH), zx 48 11 ls st h = zgo 48 (zpure (.getfield 16) 14 0 [5, 1] ls st h)) ∧
  (∀ (ls : zL) (st : zS) (h : zH), zx 48 14 ls st h = zgo 48 (zpure (.iload_n 1) 15 0 [] ls st h)) ∧
  (∀ (ls : zL) (st : zS) (h : zH), zx 48 15 ls st h = zca 48 15 18 ls 173 4 8 (ztake 2 st) h) ∧
  (∀ (ls : zL) (st : zS) (h : zH), zx 48 18 ls st h = zgo 48 (zpure (.checkcast 106) 21 0 [1] ls st h)) ∧
  (∀ (ls : zL) (st : zS) (h : zH), zx 48 21 ls st h = zgo 48 (zpure (.astore_n 3) 22 0 [] ls st h)) ∧
  (∀ (ls : zL) (st : zS) (h : zH), zx 48 22 ls st h = zgo 48 (zpure (.aload_n 0) 23 0 [] ls st h)) ∧
  (∀ (ls : zL) (st : zS) (h : zH), zx 48 23 ls st h = zgo 48 (zpure (.getfield 16) 26 0 [5, 1] ls st h)) ∧
  (∀ (ls : zL) (st : zS) (h : zH), zx 48 26 ls st h = zgo 48 (zpure (.iload_n 2) 27 0 [] ls st h)) ∧
  (∀ (ls : zL) (st : zS) (h : zH), zx 48 27 ls st h = zgo 48 (zpure (.aload_n 3) 28 0 [] ls st h)) ∧
  (∀ (ls : zL) (st : zS) (h : zH), zx 48 28 ls st h = zca 48 28 31 ls 167 5 8 (ztake 3 st) h) ∧
  (∀ (ls : zL) (st : zS) (h : zH), zx 48 31 ls st h = zgo 48 (zpure (.aload_n 0) 32 0 [] ls st h)) ∧
  (∀ (ls : zL) (st : zS) (h : zH), zx 48 32 ls st h = zgo 48 (zpure (.iconst 0) 33 0 [] ls st h)) ∧
  (∀ (ls : zL) (st : zS) (h : zH), zx 48 33 ls st h = zgo 48 (zpure (.putfield 40) 36 0 [5, 6, 1] ls st h)) ∧
  (∀ (ls : zL) (st : zS) (h : zH), zx 48 36 ls st h = zgo 48 (zpure (.iload_n 2) 37 0 [] ls st h)) ∧
  (∀ (ls : zL) (st : zS) (h : zH), zx 48 37 ls st h = zgo 48 (zpure (.iload_n 1) 38 0 [] ls st h)) ∧
  (∀ (ls : zL) (st : zS) (h : zH), zx 48 38 ls st h = zgo 48 (zpure .isub 39 0 [] ls st h)) ∧
  (∀ (ls : zL) (st : zS) (h : zH), zx 48 39 ls st h = zgo 48 (zpure (.invokestatic 122) 42 0 [3] ls st h)) ∧
  (∀ (ls : zL) (st : zS) (h : zH), zx 48 42 ls st h = zret 0 st h) :=
  ⟨zx_0 rfl, zx_0 rfl, zx_2c rfl, zx_0 rfl, zx_0 rfl, zx_2c rfl, zx_0 rfl, zx_0 rfl, zx_0 rfl, zx_2c rfl, zx_0 rfl, zx_0 rfl, zx_0 rfl, zx_0 rfl, zx_0 rfl, zx_0 rfl, zx_2c rfl, zx_0 rfl, zx_0 rfl, zx_0 rfl, zx_0 rfl, zx_0 rfl, zx_0 rfl, zx_0 rfl, zx_1 rfl⟩
/-- X5_setOverrun -/
theorem z49 :
  (∀ (ls : zL) (st : zS) (h : zH), zx 49 0 ls st h = zgo 49 (zpure (.aload_n 0) 1 0 [] ls st h)) ∧
  (∀ (ls : zL) (st : zS) (h : zH), zx 49 1 ls st h = zgo 49 (zpure (.iload_n 1) 2 0 [] ls st h)) ∧
  (∀ (ls : zL) (st : zS) (h : zH), zx 49 2 ls st h = zca 49 2 5 ls 87 2 6 (ztake 2 st) h) ∧
  (∀ (ls : zL) (st : zS) (h : zH), zx 49 5 ls st h = zgo 49 (zpure (.astore_n 3) 6 0 [] ls st h)) ∧
  (∀ (ls : zL) (st : zS) (h : zH), zx 49 6 ls st h = zgo 49 (zpure (.iload_n 2) 7 0 [] ls st h)) ∧
  (∀ (ls : zL) (st : zS) (h : zH), zx 49 7 ls st h = zgo 49 (zpure (.ifCond .lt 10) 10 17 [] ls st h)) ∧
  (∀ (ls : zL) (st : zS) (h : zH), zx 49 10 ls st h = zgo 49 (zpure (.iload_n 2) 11 0 [] ls st h)) ∧
  (∀ (ls : zL) (st : zS) (h : zH), zx 49 11 ls st h = zgo 49 (zpure (.sipush 900) 14 0 [] ls st h)) ∧
  (∀ (ls : zL) (st : zS) (h : zH), zx 49 14 ls st h = zgo 49 (zpure (.if_icmp .le 13) 17 27 [] ls st h)) ∧
  (∀ (ls : zL) (st : zS) (h : zH), zx 49 17 ls st h = (if st.length ≤ 4 then some (.inr 0, zchg h 1 6) else none)) ∧
  (∀ (ls : zL) (st : zS) (h : zH), zx 49 27 ls st h = zgo 49 (zpure (.aload_n 3) 28 0 [] ls st h)) ∧
  (∀ (ls : zL) (st : zS) (h : zH), zx 49 28 ls st h = zgo 49 (zpure (.getfield 134) 31 0 [1, 4] ls st h)) ∧
  (∀ (ls : zL) (st : zS) (h : zH), zx 49 31 ls st h = zgo 49 (zpure (.istore 4) 33 0 [] ls st h)) ∧
  (∀ (ls : zL) (st : zS) (h : zH), zx 49 33 ls st h = zgo 49 (zpure (.aload_n 3) 34 0 [] ls st h)) ∧
  (∀ (ls : zL) (st : zS) (h : zH), zx 49 34 ls st h = zgo 49 (zpure (.iload_n 2) 35 0 [] ls st h)) ∧
  (∀ (ls : zL) (st : zS) (h : zH), zx 49 35 ls st h = zgo 49 (zpure (.putfield 134) 38 0 [1, 4, 0] ls st h)) ∧
  (∀ (ls : zL) (st : zS) (h : zH), zx 49 38 ls st h = zgo 49 (zpure (.aload_n 0) 39 0 [] ls st h)) ∧
  (∀ (ls : zL) (st : zS) (h : zH), zx 49 39 ls st h = zgo 49 (zpure (.iconst 0) 40 0 [] ls st h)) ∧
  (∀ (ls : zL) (st : zS) (h : zH), zx 49 40 ls st h = zgo 49 (zpure (.putfield 40) 43 0 [5, 6, 1] ls st h)) ∧
  (∀ (ls : zL) (st : zS) (h : zH), zx 49 43 ls st h = zgo 49 (zpure (.iload 4) 45 0 [] ls st h)) ∧
  (∀ (ls : zL) (st : zS) (h : zH), zx 49 45 ls st h = zret 0 st h) :=
  ⟨zx_0 rfl, zx_0 rfl, zx_2c rfl, zx_0 rfl, zx_0 rfl, zx_0 rfl, zx_0 rfl, zx_0 rfl, zx_0 rfl, zx_3c rfl rfl, zx_0 rfl, zx_0 rfl, zx_0 rfl, zx_0 rfl, zx_0 rfl, zx_0 rfl, zx_0 rfl, zx_0 rfl, zx_0 rfl, zx_0 rfl, zx_1 rfl⟩
/-- X5_attach -/
theorem z50 :
  (∀ (ls : zL) (st : zS) (h : zH), zx 50 0 ls st h = zgo 50 (zpure (.aload_n 0) 1 0 [] ls st h)) ∧
  (∀ (ls : zL) (st : zS) (h : zH), zx 50 1 ls st h = zgo 50 (zpure (.iload_n 1) 2 0 [] ls st h)) ∧
  (∀ (ls : zL) (st : zS) (h : zH), zx 50 2 ls st h = zca 50 2 5 ls 87 2 6 (ztake 2 st) h) ∧
  (∀ (ls : zL) (st : zS) (h : zH), zx 50 5 ls st h = zgo 50 (zpure (.astore 5) 7 0 [] ls st h)) ∧
  (∀ (ls : zL) (st : zS) (h : zH), zx 50 7 ls st h = zgo 50 (zpure (.iload_n 2) 8 0 [] ls st h)) ∧
  (∀ (ls : zL) (st : zS) (h : zH), zx 50 8 ls st h = zgo 50 (zpure (.bipush 115) 10 0 [] ls st h)) ∧
  (∀ (ls : zL) (st : zS) (h : zH), zx 50 10 ls st h = zgo 50 (zpure (.if_icmp .eq 19) 13 29 [] ls st h)) ∧
  (∀ (ls : zL) (st : zS) (h : zH), zx 50 13 ls st h = zgo 50 (zpure (.iload_n 2) 14 0 [] ls st h)) ∧
  (∀ (ls : zL) (st : zS) (h : zH), zx 50 14 ls st h = zgo 50 (zpure (.bipush 101) 16 0 [] ls st h)) ∧
  (∀ (ls : zL) (st : zS) (h : zH), zx 50 16 ls st h = zgo 50 (zpure (.if_icmp .eq 13) 19 29 [] ls st h)) ∧
  (∀ (ls : zL) (st : zS) (h : zH), zx 50 19 ls st h = (if st.length ≤ 4 then some (.inr 0, zchg h 1 6) else none)) ∧
  (∀ (ls : zL) (st : zS) (h : zH), zx 50 29 ls st h = zgo 50 (zpure (.iload_n 3) 30 0 [] ls st h)) ∧
  (∀ (ls : zL) (st : zS) (h : zH), zx 50 30 ls st h = zgo 50 (zpure (.ifCond .lt 10) 33 40 [] ls st h)) ∧
  (∀ (ls : zL) (st : zS) (h : zH), zx 50 33 ls st h = zgo 50 (zpure (.iload_n 3) 34 0 [] ls st h)) ∧
  (∀ (ls : zL) (st : zS) (h : zH), zx 50 34 ls st h = zgo 50 (zpure (.sipush 900) 37 0 [] ls st h)) ∧
  (∀ (ls : zL) (st : zS) (h : zH), zx 50 37 ls st h = zgo 50 (zpure (.if_icmp .le 13) 40 50 [] ls st h)) ∧
  (∀ (ls : zL) (st : zS) (h : zH), zx 50 40 ls st h = (if st.length ≤ 4 then some (.inr 0, zchg h 1 6) else none)) ∧
  (∀ (ls : zL) (st : zS) (h : zH), zx 50 50 ls st h = zgo 50 (zpure (.iload 4) 52 0 [] ls st h)) ∧
  (∀ (ls : zL) (st : zS) (h : zH), zx 50 52 ls st h = zgo 50 (zpure (.iconst 1) 53 0 [] ls st h)) ∧
  (∀ (ls : zL) (st : zS) (h : zH), zx 50 53 ls st h = zgo 50 (zpure (.if_icmp .lt 11) 56 64 [] ls st h)) ∧
  (∀ (ls : zL) (st : zS) (h : zH), zx 50 56 ls st h = zgo 50 (zpure (.iload 4) 58 0 [] ls st h)) ∧
  (∀ (ls : zL) (st : zS) (h : zH), zx 50 58 ls st h = zgo 50 (zpure (.sipush 900) 61 0 [] ls st h)) ∧
  (∀ (ls : zL) (st : zS) (h : zH), zx 50 61 ls st h = zgo 50 (zpure (.if_icmp .le 13) 64 74 [] ls st h)) ∧
  (∀ (ls : zL) (st : zS) (h : zH), zx 50 64 ls st h = (if st.length ≤ 4 then some (.inr 0, zchg h 1 6) else none)) ∧
  (∀ (ls : zL) (st : zS) (h : zH), zx 50 74 ls st h = zgo 50 (zpure (.aload 5) 76 0 [] ls st h)) ∧
  (∀ (ls : zL) (st : zS) (h : zH), zx 50 76 ls st h = zgo 50 (zpure (.getfield 143) 79 0 [1, 3] ls st h)) ∧
  (∀ (ls : zL) (st : zS) (h : zH), zx 50 79 ls st h = zca 50 79 82 ls 175 1 8 (ztake 1 st) h) ∧
  (∀ (ls : zL) (st : zS) (h : zH), zx 50 82 ls st h = zgo 50 (zpure (.iconst 3) 83 0 [] ls st h)) ∧
  (∀ (ls : zL) (st : zS) (h : zH), zx 50 83 ls st h = zgo 50 (zpure (.if_icmp .lt 13) 86 96 [] ls st h)) ∧
  (∀ (ls : zL) (st : zS) (h : zH), zx 50 86 ls st h = (if st.length ≤ 4 then some (.inr 1, zchg h 1 6) else none)) ∧
  (∀ (ls : zL) (st : zS) (h : zH), zx 50 96 ls st h = zgo 50 (zpure (.aload 5) 98 0 [] ls st h)) ∧
  (∀ (ls : zL) (st : zS) (h : zH), zx 50 98 ls st h = zgo 50 (zpure (.getfield 143) 101 0 [1, 3] ls st h)) ∧
  (∀ (ls : zL) (st : zS) (h : zH), zx 50 101 ls st h = zgo 50 (zpure (.new 148) 104 0 [3, 3] ls st h)) ∧
  (∀ (ls : zL) (st : zS) (h : zH), zx 50 104 ls st h = zgo 50 (zpure .dup 105 0 [] ls st h)) ∧
  (∀ (ls : zL) (st : zS) (h : zH), zx 50 105 ls st h = zgo 50 (zpure (.iload_n 2) 106 0 [] ls st h)) ∧
  (∀ (ls : zL) (st : zS) (h : zH), zx 50 106 ls st h = zgo 50 (zpure (.iload_n 3) 107 0 [] ls st h)) ∧
  (∀ (ls : zL) (st : zS) (h : zH), zx 50 107 ls st h = zgo 50 (zpure (.iload 4) 109 0 [] ls st h)) ∧
  (∀ (ls : zL) (st : zS) (h : zH), zx 50 109 ls st h = zca 50 109 112 ls 24 4 100 (ztake 4 st) h) ∧
  (∀ (ls : zL) (st : zS) (h : zH), zx 50 112 ls st h = zca 50 112 115 ls 165 2 8 (ztake 2 st) h) ∧
  (∀ (ls : zL) (st : zS) (h : zH), zx 50 115 ls st h = zgo 50 (zpure .pop 116 0 [] ls st h)) ∧
  (∀ (ls : zL) (st : zS) (h : zH), zx 50 116 ls st h = zgo 50 (zpure (.aload 5) 118 0 [] ls st h)) ∧
  (∀ (ls : zL) (st : zS) (h : zH), zx 50 118 ls st h = zgo 50 (zpure (.getfield 143) 121 0 [1, 3] ls st h)) ∧
  (∀ (ls : zL) (st : zS) (h : zH), zx 50 121 ls st h = zca 50 121 124 ls 175 1 8 (ztake 1 st) h) ∧
  (∀ (ls : zL) (st : zS) (h : zH), zx 50 124 ls st h = zret 0 st h) :=
  ⟨zx_0 rfl, zx_0 rfl, zx_2c rfl, zx_0 rfl, zx_0 rfl, zx_0 rfl, zx_0 rfl, zx_0 rfl, zx_0 rfl, zx_0 rfl, zx_3c rfl rfl, zx_0 rfl, zx_0 rfl, zx_0 rfl, zx_0 rfl, zx_0 rfl, zx_3c rfl rfl, zx_0 rfl, zx_0 rfl, zx_0 rfl, zx_0 rfl, zx_0 rfl, zx_0 rfl, zx_3c rfl rfl, zx_0 rfl, zx_0 rfl, zx_2c rfl, zx_0 rfl, zx_0 rfl, zx_3c rfl rfl, zx_0 rfl, zx_0 rfl, zx_0 rfl, zx_0 rfl, zx_0 rfl, zx_0 rfl, zx_0 rfl, zx_2c rfl, zx_2c rfl, zx_0 rfl, zx_0 rfl, zx_0 rfl, zx_2c rfl, zx_1 rfl⟩
/-- X5_events -/
theorem z51 :
  (∀ (ls : zL) (st : zS) (h : zH), zx 51 0 ls st h = zgo 51 (zpure (.aload_n 0) 1 0 [] ls st h)) ∧
  (∀ (ls : zL) (st : zS) (h : zH), zx 51 1 ls st h = zgo 51 (zpure (.getfield 16) 4 0 [5, 1] ls st h)) ∧
  (∀ (ls : zL) (st : zS) (h : zH), zx 51 4 ls st h = zca 51 4 7 ls 175 1 8 (ztake 1 st) h) ∧
  (∀ (ls : zL) (st : zS) (h : zH), zx 51 7 ls st h = zret 0 st h) :=
  ⟨zx_0 rfl, zx_0 rfl, zx_2c rfl, zx_1 rfl⟩
/-- X5_programme -/
theorem z52 :
  (∀ (ls : zL) (st : zS) (h : zH), zx 52 0 ls st h = zgo 52 (zpure (.aload_n 0) 1 0 [] ls st h)) ∧
  (∀ (ls : zL) (st : zS) (h : zH), zx 52 1 ls st h = zgo 52 (zpure (.iload_n 1) 2 0 [] ls st h)) ∧
  (∀ (ls : zL) (st : zS) (h : zH), zx 52 2 ls st h = zca 52 2 5 ls 87 2 6 (ztake 2 st) h) ∧
  (∀ (ls : zL) (st : zS) (h : zH), zx 52 5 ls st h = zgo 52 (zpure (.getfield 153) 8 0 [1, 0] ls st h)) ∧
  (∀ (ls : zL) (st : zS) (h : zH), zx 52 8 ls st h = zgo 52 (zpure (.getfield 157) 11 0 [0, 0] ls st h)) ∧
  (∀ (ls : zL) (st : zS) (h : zH), zx 52 11 ls st h = zret 0 st h) :=
  ⟨zx_0 rfl, zx_0 rfl, zx_2c rfl, zx_0 rfl, zx_0 rfl, zx_1 rfl⟩
/-- X5_fate -/
theorem z53 :
  (∀ (ls : zL) (st : zS) (h : zH), zx 53 0 ls st h = zgo 53 (zpure (.aload_n 0) 1 0 [] ls st h)) ∧
  (∀ (ls : zL) (st : zS) (h : zH), zx 53 1 ls st h = zca 53 1 4 ls 91 4 6 (ztake 1 st) h) ∧
  (∀ (ls : zL) (st : zS) (h : zH), zx 53 4 ls st h = zgo 53 (zpure (.aload_n 0) 5 0 [] ls st h)) ∧
  (∀ (ls : zL) (st : zS) (h : zH), zx 53 5 ls st h = zgo 53 (zpure (.iload_n 1) 6 0 [] ls st h)) ∧
  (∀ (ls : zL) (st : zS) (h : zH), zx 53 6 ls st h = zca 53 6 9 ls 87 2 6 (ztake 2 st) h) ∧
  (∀ (ls : zL) (st : zS) (h : zH), zx 53 9 ls st h = zgo 53 (zpure (.astore_n 2) 10 0 [] ls st h)) ∧
  (∀ (ls : zL) (st : zS) (h : zH), zx 53 10 ls st h = zgo 53 (zpure (.aload_n 2) 11 0 [] ls st h)) ∧
  (∀ (ls : zL) (st : zS) (h : zH), zx 53 11 ls st h = zgo 53 (zpure (.getfield 163) 14 0 [1, 5] ls st h)) ∧
  (∀ (ls : zL) (st : zS) (h : zH), zx 53 14 ls st h = zgo 53 (zpure (.ifCond .eq 6) 17 20 [] ls st h)) ∧
  (∀ (ls : zL) (st : zS) (h : zH), zx 53 17 ls st h = zgo 53 (zpure (.bipush 114) 19 0 [] ls st h)) ∧
  (∀ (ls : zL) (st : zS) (h : zH), zx 53 19 ls st h = zret 3 st h) ∧
  (∀ (ls : zL) (st : zS) (h : zH), zx 53 20 ls st h = zgo 53 (zpure (.aload_n 2) 21 0 [] ls st h)) ∧
  (∀ (ls : zL) (st : zS) (h : zH), zx 53 21 ls st h = zca 53 21 24 ls 6 1 2 (ztake 1 st) h) ∧
  (∀ (ls : zL) (st : zS) (h : zH), zx 53 24 ls st h = zgo 53 (zpure (.ifCond .ne 6) 27 30 [] ls st h)) ∧
  (∀ (ls : zL) (st : zS) (h : zH), zx 53 27 ls st h = zgo 53 (zpure (.bipush 120) 29 0 [] ls st h)) ∧
  (∀ (ls : zL) (st : zS) (h : zH), zx 53 29 ls st h = zret 3 st h) ∧
  (∀ (ls : zL) (st : zS) (h : zH), zx 53 30 ls st h = zgo 53 (zpure (.aload_n 2) 31 0 [] ls st h)) ∧
  (∀ (ls : zL) (st : zS) (h : zH), zx 53 31 ls st h = zgo 53 (zpure (.getfield 170) 34 0 [1, 8] ls st h)) ∧
  (∀ (ls : zL) (st : zS) (h : zH), zx 53 34 ls st h = zgo 53 (zpure (.aload_n 2) 35 0 [] ls st h)) ∧
  (∀ (ls : zL) (st : zS) (h : zH), zx 53 35 ls st h = zgo 53 (zpure (.getfield 173) 38 0 [1, 9] ls st h)) ∧
  (∀ (ls : zL) (st : zS) (h : zH), zx 53 38 ls st h = zgo 53 (zpure (.if_icmp .ge 6) 41 44 [] ls st h)) ∧
  (∀ (ls : zL) (st : zS) (h : zH), zx 53 41 ls st h = zgo 53 (zpure (.bipush 99) 43 0 [] ls st h)) ∧
  (∀ (ls : zL) (st : zS) (h : zH), zx 53 43 ls st h = zret 3 st h) ∧
  (∀ (ls : zL) (st : zS) (h : zH), zx 53 44 ls st h = zgo 53 (zpure (.aload_n 2) 45 0 [] ls st h)) ∧
  (∀ (ls : zL) (st : zS) (h : zH), zx 53 45 ls st h = zgo 53 (zpure (.getfield 176) 48 0 [1, 6] ls st h)) ∧
  (∀ (ls : zL) (st : zS) (h : zH), zx 53 48 ls st h = zgo 53 (zpure (.ifCond .eq 8) 51 56 [] ls st h)) ∧
  (∀ (ls : zL) (st : zS) (h : zH), zx 53 51 ls st h = zgo 53 (zpure (.bipush 106) 53 0 [] ls st h)) ∧
  (∀ (ls : zL) (st : zS) (h : zH), zx 53 53 ls st h = zgo 53 (zpure (.goto 5) 56 58 [] ls st h)) ∧
  (∀ (ls : zL) (st : zS) (h : zH), zx 53 56 ls st h = zgo 53 (zpure (.bipush 97) 58 0 [] ls st h)) ∧
  (∀ (ls : zL) (st : zS) (h : zH), zx 53 58 ls st h = zret 3 st h) :=
  ⟨zx_0 rfl, zx_2c rfl, zx_0 rfl, zx_0 rfl, zx_2c rfl, zx_0 rfl, zx_0 rfl, zx_0 rfl, zx_0 rfl, zx_0 rfl, zx_1 rfl, zx_0 rfl, zx_2c rfl, zx_0 rfl, zx_0 rfl, zx_1 rfl, zx_0 rfl, zx_0 rfl, zx_0 rfl, zx_0 rfl, zx_0 rfl, zx_0 rfl, zx_1 rfl, zx_0 rfl, zx_0 rfl, zx_0 rfl, zx_0 rfl, zx_0 rfl, zx_0 rfl, zx_1 rfl⟩
/-- X5_startOf -/
theorem z54 :
  (∀ (ls : zL) (st : zS) (h : zH), zx 54 0 ls st h = zgo 54 (zpure (.aload_n 0) 1 0 [] ls st h)) ∧
  (∀ (ls : zL) (st : zS) (h : zH), zx 54 1 ls st h = zca 54 1 4 ls 91 4 6 (ztake 1 st) h) ∧
  (∀ (ls : zL) (st : zS) (h : zH), zx 54 4 ls st h = zgo 54 (zpure (.aload_n 0) 5 0 [] ls st h)) ∧
  (∀ (ls : zL) (st : zS) (h : zH), zx 54 5 ls st h = zgo 54 (zpure (.iload_n 1) 6 0 [] ls st h)) ∧
  (∀ (ls : zL) (st : zS) (h : zH), zx 54 6 ls st h = zca 54 6 9 ls 88 3 6 (ztake 2 st) h) ∧
  (∀ (ls : zL) (st : zS) (h : zH), zx 54 9 ls st h = zgo 54 (zpure (.getfield 182) 12 0 [1, 7] ls st h)) ∧
  (∀ (ls : zL) (st : zS) (h : zH), zx 54 12 ls st h = zret 0 st h) :=
  ⟨zx_0 rfl, zx_2c rfl, zx_0 rfl, zx_0 rfl, zx_2c rfl, zx_0 rfl, zx_1 rfl⟩
/-- X5_endOf -/
theorem z55 :
  (∀ (ls : zL) (st : zS) (h : zH), zx 55 0 ls st h = zgo 55 (zpure (.aload_n 0) 1 0 [] ls st h)) ∧
  (∀ (ls : zL) (st : zS) (h : zH), zx 55 1 ls st h = zca 55 1 4 ls 91 4 6 (ztake 1 st) h) ∧
  (∀ (ls : zL) (st : zS) (h : zH), zx 55 4 ls st h = zgo 55 (zpure (.aload_n 0) 5 0 [] ls st h)) ∧
  (∀ (ls : zL) (st : zS) (h : zH), zx 55 5 ls st h = zgo 55 (zpure (.iload_n 1) 6 0 [] ls st h)) ∧
  (∀ (ls : zL) (st : zS) (h : zH), zx 55 6 ls st h = zca 55 6 9 ls 88 3 6 (ztake 2 st) h) ∧
  (∀ (ls : zL) (st : zS) (h : zH), zx 55 9 ls st h = zgo 55 (zpure (.getfield 170) 12 0 [1, 8] ls st h)) ∧
  (∀ (ls : zL) (st : zS) (h : zH), zx 55 12 ls st h = zret 0 st h) :=
  ⟨zx_0 rfl, zx_2c rfl, zx_0 rfl, zx_0 rfl, zx_2c rfl, zx_0 rfl, zx_1 rfl⟩
/-- X5_spans -/
theorem z56 :
  (∀ (ls : zL) (st : zS) (h : zH), zx 56 0 ls st h = zgo 56 (zpure (.aload_n 0) 1 0 [] ls st h)) ∧
  (∀ (ls : zL) (st : zS) (h : zH), zx 56 1 ls st h = zca 56 1 4 ls 91 4 6 (ztake 1 st) h) ∧
  (∀ (ls : zL) (st : zS) (h : zH), zx 56 4 ls st h = zgo 56 (zpure (.aload_n 0) 5 0 [] ls st h)) ∧
  (∀ (ls : zL) (st : zS) (h : zH), zx 56 5 ls st h = zgo 56 (zpure (.getfield 22) 8 0 [5, 2] ls st h)) ∧
  (∀ (ls : zL) (st : zS) (h : zH), zx 56 8 ls st h = zgo 56 (zpure (.getfield 185) 11 0 [4, 3] ls st h)) ∧
  (∀ (ls : zL) (st : zS) (h : zH), zx 56 11 ls st h = zret 0 st h) :=
  ⟨zx_0 rfl, zx_2c rfl, zx_0 rfl, zx_0 rfl, zx_0 rfl, zx_1 rfl⟩
/-- X5_spanClip -/
theorem z57 :
  (∀ (ls : zL) (st : zS) (h : zH), zx 57 0 ls st h = zgo 57 (zpure (.aload_n 0) 1 0 [] ls st h)) ∧
  (∀ (ls : zL) (st : zS) (h : zH), zx 57 1 ls st h = zca 57 1 4 ls 91 4 6 (ztake 1 st) h) ∧
  (∀ (ls : zL) (st : zS) (h : zH), zx 57 4 ls st h = zgo 57 (zpure (.aload_n 0) 5 0 [] ls st h)) ∧
  (∀ (ls : zL) (st : zS) (h : zH), zx 57 5 ls st h = zgo 57 (zpure (.iload_n 1) 6 0 [] ls st h)) ∧
  (∀ (ls : zL) (st : zS) (h : zH), zx 57 6 ls st h = zca 57 6 9 ls 82 2 6 (ztake 2 st) h) ∧
  (∀ (ls : zL) (st : zS) (h : zH), zx 57 9 ls st h = zgo 57 (zpure (.aload_n 0) 10 0 [] ls st h)) ∧
  (∀ (ls : zL) (st : zS) (h : zH), zx 57 10 ls st h = zgo 57 (zpure (.getfield 22) 13 0 [5, 2] ls st h)) ∧
  (∀ (ls : zL) (st : zS) (h : zH), zx 57 13 ls st h = zgo 57 (zpure (.iload_n 1) 14 0 [] ls st h)) ∧
  (∀ (ls : zL) (st : zS) (h : zH), zx 57 14 ls st h = zca 57 14 17 ls 34 2 5 (ztake 2 st) h) ∧
  (∀ (ls : zL) (st : zS) (h : zH), zx 57 17 ls st h = zret 0 st h) :=
  ⟨zx_0 rfl, zx_2c rfl, zx_0 rfl, zx_0 rfl, zx_2c rfl, zx_0 rfl, zx_0 rfl, zx_0 rfl, zx_2c rfl, zx_1 rfl⟩
/-- X5_spanStart -/
theorem z58 :
  (∀ (ls : zL) (st : zS) (h : zH), zx 58 0 ls st h = zgo 58 (zpure (.aload_n 0) 1 0 [] ls st h)) ∧
  (∀ (ls : zL) (st : zS) (h : zH), zx 58 1 ls st h = zca 58 1 4 ls 91 4 6 (ztake 1 st) h) ∧
  (∀ (ls : zL) (st : zS) (h : zH), zx 58 4 ls st h = zgo 58 (zpure (.aload_n 0) 5 0 [] ls st h)) ∧
  (∀ (ls : zL) (st : zS) (h : zH), zx 58 5 ls st h = zgo 58 (zpure (.iload_n 1) 6 0 [] ls st h)) ∧
  (∀ (ls : zL) (st : zS) (h : zH), zx 58 6 ls st h = zca 58 6 9 ls 82 2 6 (ztake 2 st) h) ∧
  (∀ (ls : zL) (st : zS) (h : zH), zx 58 9 ls st h = zgo 58 (zpure (.aload_n 0) 10 0 [] ls st h)) ∧
  (∀ (ls : zL) (st : zS) (h : zH), zx 58 10 ls st h = zgo 58 (zpure (.getfield 22) 13 0 [5, 2] ls st h)) ∧
  (∀ (ls : zL) (st : zS) (h : zH), zx 58 13 ls st h = zgo 58 (zpure (.iload_n 1) 14 0 [] ls st h)) ∧
  (∀ (ls : zL) (st : zS) (h : zH), zx 58 14 ls st h = zca 58 14 17 ls 35 2 5 (ztake 2 st) h) ∧
  (∀ (ls : zL) (st : zS) (h : zH), zx 58 17 ls st h = zret 0 st h) :=
  ⟨zx_0 rfl, zx_2c rfl, zx_0 rfl, zx_0 rfl, zx_2c rfl, zx_0 rfl, zx_0 rfl, zx_0 rfl, zx_2c rfl, zx_1 rfl⟩
/-- X5_spanLength -/
theorem z59 :
  (∀ (ls : zL) (st : zS) (h : zH), zx 59 0 ls st h = zgo 59 (zpure (.aload_n 0) 1 0 [] ls st h)) ∧
  (∀ (ls : zL) (st : zS) (h : zH), zx 59 1 ls st h = zca 59 1 4 ls 91 4 6 (ztake 1 st) h) ∧
  (∀ (ls : zL) (st : zS) (h : zH), zx 59 4 ls st h = zgo 59 (zpure (.aload_n 0) 5 0 [] ls st h)) ∧
  (∀ (ls : zL) (st : zS) (h : zH), zx 59 5 ls st h = zgo 59 (zpure (.iload_n 1) 6 0 [] ls st h)) ∧
  (∀ (ls : zL) (st : zS) (h : zH), zx 59 6 ls st h = zca 59 6 9 ls 82 2 6 (ztake 2 st) h) ∧
  (∀ (ls : zL) (st : zS) (h : zH), zx 59 9 ls st h = zgo 59 (zpure (.aload_n 0) 10 0 [] ls st h)) ∧
  (∀ (ls : zL) (st : zS) (h : zH), zx 59 10 ls st h = zgo 59 (zpure (.getfield 22) 13 0 [5, 2] ls st h)) ∧
  (∀ (ls : zL) (st : zS) (h : zH), zx 59 13 ls st h = zgo 59 (zpure (.iload_n 1) 14 0 [] ls st h)) ∧
  (∀ (ls : zL) (st : zS) (h : zH), zx 59 14 ls st h = zca 59 14 17 ls 37 2 5 (ztake 2 st) h) ∧
  (∀ (ls : zL) (st : zS) (h : zH), zx 59 17 ls st h = zret 0 st h) :=
  ⟨zx_0 rfl, zx_2c rfl, zx_0 rfl, zx_0 rfl, zx_2c rfl, zx_0 rfl, zx_0 rfl, zx_0 rfl, zx_2c rfl, zx_1 rfl⟩
/-- X5_airAt -/
theorem z60 :
  (∀ (ls : zL) (st : zS) (h : zH), zx 60 0 ls st h = zgo 60 (zpure (.iload_n 1) 1 0 [] ls st h)) ∧
  (∀ (ls : zL) (st : zS) (h : zH), zx 60 1 ls st h = zca 60 1 4 ls 84 1 0 (ztake 1 st) h) ∧
  (∀ (ls : zL) (st : zS) (h : zH), zx 60 4 ls st h = zgo 60 (zpure (.aload_n 0) 5 0 [] ls st h)) ∧
  (∀ (ls : zL) (st : zS) (h : zH), zx 60 5 ls st h = zca 60 5 8 ls 91 4 6 (ztake 1 st) h) ∧
  (∀ (ls : zL) (st : zS) (h : zH), zx 60 8 ls st h = zgo 60 (zpure (.aload_n 0) 9 0 [] ls st h)) ∧
  (∀ (ls : zL) (st : zS) (h : zH), zx 60 9 ls st h = zgo 60 (zpure (.getfield 22) 12 0 [5, 2] ls st h)) ∧
  (∀ (ls : zL) (st : zS) (h : zH), zx 60 12 ls st h = zgo 60 (zpure (.iload_n 1) 13 0 [] ls st h)) ∧
  (∀ (ls : zL) (st : zS) (h : zH), zx 60 13 ls st h = zca 60 13 16 ls 38 3 5 (ztake 2 st) h) ∧
  (∀ (ls : zL) (st : zS) (h : zH), zx 60 16 ls st h = zret 0 st h) :=
  ⟨zx_0 rfl, zx_2c rfl, zx_0 rfl, zx_2c rfl, zx_0 rfl, zx_0 rfl, zx_0 rfl, zx_2c rfl, zx_1 rfl⟩
/-- X5_airBySeconds -/
theorem z61 :
  (∀ (ls : zL) (st : zS) (h : zH), zx 61 0 ls st h = zgo 61 (zpure (.iload_n 1) 1 0 [] ls st h)) ∧
  (∀ (ls : zL) (st : zS) (h : zH), zx 61 1 ls st h = zca 61 1 4 ls 84 1 0 (ztake 1 st) h) ∧
  (∀ (ls : zL) (st : zS) (h : zH), zx 61 4 ls st h = zgo 61 (zpure (.aload_n 0) 5 0 [] ls st h)) ∧
  (∀ (ls : zL) (st : zS) (h : zH), zx 61 5 ls st h = zca 61 5 8 ls 91 4 6 (ztake 1 st) h) ∧
  (∀ (ls : zL) (st : zS) (h : zH), zx 61 8 ls st h = zgo 61 (zpure (.aload_n 0) 9 0 [] ls st h)) ∧
  (∀ (ls : zL) (st : zS) (h : zH), zx 61 9 ls st h = zgo 61 (zpure (.getfield 22) 12 0 [5, 2] ls st h)) ∧
  (∀ (ls : zL) (st : zS) (h : zH), zx 61 12 ls st h = zgo 61 (zpure (.iload_n 1) 13 0 [] ls st h)) ∧
  (∀ (ls : zL) (st : zS) (h : zH), zx 61 13 ls st h = zca 61 13 16 ls 39 4 5 (ztake 2 st) h) ∧
  (∀ (ls : zL) (st : zS) (h : zH), zx 61 16 ls st h = zret 0 st h) :=
  ⟨zx_0 rfl, zx_2c rfl, zx_0 rfl, zx_2c rfl, zx_0 rfl, zx_0 rfl, zx_0 rfl, zx_2c rfl, zx_1 rfl⟩
theorem z62_8 : ∀ (ls : zL) (st : zS) (h : zH), zx 62 8 ls st h = zgo 62 (zpure (.iload_n 2) 9 0 [] ls st h) := zx_0 rfl
/-- X5_slate -/
theorem z62 :
  (∀ (ls : zL) (st : zS) (h : zH), zx 62 0 ls st h = zgo 62 (zpure (.aload_n 0) 1 0 [] ls st h)) ∧
  (∀ (ls : zL) (st : zS) (h : zH), zx 62 1 ls st h = zca 62 1 4 ls 91 4 6 (ztake 1 st) h) ∧
  (∀ (ls : zL) (st : zS) (h : zH), zx 62 4 ls st h = zgo 62 (zpure (.iconst 0) 5 0 [] ls st h)) ∧
  (∀ (ls : zL) (st : zS) (h : zH), zx 62 5 ls st h = zgo 62 (zpure (.istore_n 1) 6 0 [] ls st h)) ∧
  (∀ (ls : zL) (st : zS) (h : zH), zx 62 6 ls st h = zgo 62 (zpure (.iconst 0) 7 0 [] ls st h)) ∧
  (∀ (ls : zL) (st : zS) (h : zH), zx 62 7 ls st h = zgo 62 (zpure (.istore_n 2) 8 0 [] ls st h)) ∧
  (∀ (ls : zL) (st : zS) (h : zH), zx 62 9 ls st h = zgo 62 (zpure (.aload_n 0) 10 0 [] ls st h)) ∧
  (∀ (ls : zL) (st : zS) (h : zH), zx 62 10 ls st h = zgo 62 (zpure (.getfield 22) 13 0 [5, 2] ls st h)) ∧
  (∀ (ls : zL) (st : zS) (h : zH), zx 62 13 ls st h = zgo 62 (zpure (.getfield 185) 16 0 [4, 3] ls st h)) ∧
  (∀ (ls : zL) (st : zS) (h : zH), zx 62 16 ls st h = zgo 62 (zpure (.if_icmp .ge 32) 19 48 [] ls st h)) ∧
  (∀ (ls : zL) (st : zS) (h : zH), zx 62 19 ls st h = zgo 62 (zpure (.aload_n 0) 20 0 [] ls st h)) ∧
  (∀ (ls : zL) (st : zS) (h : zH), zx 62 20 ls st h = zgo 62 (zpure (.getfield 22) 23 0 [5, 2] ls st h)) ∧
  (∀ (ls : zL) (st : zS) (h : zH), zx 62 23 ls st h = zgo 62 (zpure (.iload_n 2) 24 0 [] ls st h)) ∧
  (∀ (ls : zL) (st : zS) (h : zH), zx 62 24 ls st h = zca 62 24 27 ls 34 2 5 (ztake 2 st) h) ∧
  (∀ (ls : zL) (st : zS) (h : zH), zx 62 27 ls st h = zgo 62 (zpure (.iconst (-1)) 28 0 [] ls st h)) ∧
  (∀ (ls : zL) (st : zS) (h : zH), zx 62 28 ls st h = zgo 62 (zpure (.if_icmp .ne 14) 31 42 [] ls st h)) ∧
  (∀ (ls : zL) (st : zS) (h : zH), zx 62 31 ls st h = zgo 62 (zpure (.iload_n 1) 32 0 [] ls st h)) ∧
  (∀ (ls : zL) (st : zS) (h : zH), zx 62 32 ls st h = zgo 62 (zpure (.aload_n 0) 33 0 [] ls st h)) ∧
  (∀ (ls : zL) (st : zS) (h : zH), zx 62 33 ls st h = zgo 62 (zpure (.getfield 22) 36 0 [5, 2] ls st h)) ∧
  (∀ (ls : zL) (st : zS) (h : zH), zx 62 36 ls st h = zgo 62 (zpure (.iload_n 2) 37 0 [] ls st h)) ∧
  (∀ (ls : zL) (st : zS) (h : zH), zx 62 37 ls st h = zca 62 37 40 ls 37 2 5 (ztake 2 st) h) ∧
  (∀ (ls : zL) (st : zS) (h : zH), zx 62 40 ls st h = zgo 62 (zpure .iadd 41 0 [] ls st h)) ∧
  (∀ (ls : zL) (st : zS) (h : zH), zx 62 41 ls st h = zgo 62 (zpure (.istore_n 1) 42 0 [] ls st h)) ∧
  (∀ (ls : zL) (st : zS) (h : zH), zx 62 42 ls st h = zgo 62 (zpure (.iinc 2 1) 45 0 [] ls st h)) ∧
  (∀ (ls : zL) (st : zS) (h : zH), zx 62 45 ls st h = zgo 62 (zpure (.goto (-37)) 48 8 [] ls st h)) ∧
  (∀ (ls : zL) (st : zS) (h : zH), zx 62 48 ls st h = zgo 62 (zpure (.iload_n 1) 49 0 [] ls st h)) ∧
  (∀ (ls : zL) (st : zS) (h : zH), zx 62 49 ls st h = zret 0 st h) :=
  ⟨zx_0 rfl, zx_2c rfl, zx_0 rfl, zx_0 rfl, zx_0 rfl, zx_0 rfl, zx_0 rfl, zx_0 rfl, zx_0 rfl, zx_0 rfl, zx_0 rfl, zx_0 rfl, zx_0 rfl, zx_2c rfl, zx_0 rfl, zx_0 rfl, zx_0 rfl, zx_0 rfl, zx_0 rfl, zx_0 rfl, zx_2c rfl, zx_0 rfl, zx_0 rfl, zx_0 rfl, zx_0 rfl, zx_0 rfl, zx_1 rfl⟩
theorem z63_12 : ∀ (ls : zL) (st : zS) (h : zH), zx 63 12 ls st h = zgo 63 (zpure (.iload_n 3) 13 0 [] ls st h) := zx_0 rfl
/-- X5_showing -/
theorem z63 :
  (∀ (ls : zL) (st : zS) (h : zH), zx 63 0 ls st h = zgo 63 (zpure (.iload_n 1) 1 0 [] ls st h)) ∧
  (∀ (ls : zL) (st : zS) (h : zH), zx 63 1 ls st h = zca 63 1 4 ls 84 1 0 (ztake 1 st) h) ∧
  (∀ (ls : zL) (st : zS) (h : zH), zx 63 4 ls st h = zgo 63 (zpure (.aload_n 0) 5 0 [] ls st h)) ∧
  (∀ (ls : zL) (st : zS) (h : zH), zx 63 5 ls st h = zca 63 5 8 ls 91 4 6 (ztake 1 st) h) ∧
  (∀ (ls : zL) (st : zS) (h : zH), zx 63 8 ls st h = zgo 63 (zpure (.iconst 0) 9 0 [] ls st h)) ∧
  (∀ (ls : zL) (st : zS) (h : zH), zx 63 9 ls st h = zgo 63 (zpure (.istore_n 2) 10 0 [] ls st h)) ∧
  (∀ (ls : zL) (st : zS) (h : zH), zx 63 10 ls st h = zgo 63 (zpure (.iconst 0) 11 0 [] ls st h)) ∧
  (∀ (ls : zL) (st : zS) (h : zH), zx 63 11 ls st h = zgo 63 (zpure (.istore_n 3) 12 0 [] ls st h)) ∧
  (∀ (ls : zL) (st : zS) (h : zH), zx 63 13 ls st h = zgo 63 (zpure (.aload_n 0) 14 0 [] ls st h)) ∧
  (∀ (ls : zL) (st : zS) (h : zH), zx 63 14 ls st h = zgo 63 (zpure (.getfield 16) 17 0 [5, 1] ls st h)) ∧
  (∀ (ls : zL) (st : zS) (h : zH), zx 63 17 ls st h = zca 63 17 20 ls 175 1 8 (ztake 1 st) h) ∧
  (∀ (ls : zL) (st : zS) (h : zH), zx 63 20 ls st h = zgo 63 (zpure (.if_icmp .ge 27) 23 47 [] ls st h)) ∧
  (∀ (ls : zL) (st : zS) (h : zH), zx 63 23 ls st h = zgo 63 (zpure (.iload_n 2) 24 0 [] ls st h)) ∧
  (∀ (ls : zL) (st : zS) (h : zH), zx 63 24 ls st h = zgo 63 (zpure (.aload_n 0) 25 0 [] ls st h)) ∧
  (∀ (ls : zL) (st : zS) (h : zH), zx 63 25 ls st h = zgo 63 (zpure (.getfield 16) 28 0 [5, 1] ls st h)) ∧
  (∀ (ls : zL) (st : zS) (h : zH), zx 63 28 ls st h = zgo 63 (zpure (.iload_n 3) 29 0 [] ls st h)) ∧
  (∀ (ls : zL) (st : zS) (h : zH), zx 63 29 ls st h = zca 63 29 32 ls 171 2 8 (ztake 2 st) h) ∧
  (∀ (ls : zL) (st : zS) (h : zH), zx 63 32 ls st h = zgo 63 (zpure (.checkcast 106) 35 0 [1] ls st h)) ∧
  (∀ (ls : zL) (st : zS) (h : zH), zx 63 35 ls st h = zgo 63 (zpure (.iload_n 1) 36 0 [] ls st h)) ∧
  (∀ (ls : zL) (st : zS) (h : zH), zx 63 36 ls st h = zca 63 36 39 ls 7 5 2 (ztake 2 st) h) ∧
  (∀ (ls : zL) (st : zS) (h : zH), zx 63 39 ls st h = zgo 63 (zpure .iadd 40 0 [] ls st h)) ∧
  (∀ (ls : zL) (st : zS) (h : zH), zx 63 40 ls st h = zgo 63 (zpure (.istore_n 2) 41 0 [] ls st h)) ∧
  (∀ (ls : zL) (st : zS) (h : zH), zx 63 41 ls st h = zgo 63 (zpure (.iinc 3 1) 44 0 [] ls st h)) ∧
  (∀ (ls : zL) (st : zS) (h : zH), zx 63 44 ls st h = zgo 63 (zpure (.goto (-32)) 47 12 [] ls st h)) ∧
  (∀ (ls : zL) (st : zS) (h : zH), zx 63 47 ls st h = zgo 63 (zpure (.iload_n 2) 48 0 [] ls st h)) ∧
  (∀ (ls : zL) (st : zS) (h : zH), zx 63 48 ls st h = zret 0 st h) :=
  ⟨zx_0 rfl, zx_2c rfl, zx_0 rfl, zx_2c rfl, zx_0 rfl, zx_0 rfl, zx_0 rfl, zx_0 rfl, zx_0 rfl, zx_0 rfl, zx_2c rfl, zx_0 rfl, zx_0 rfl, zx_0 rfl, zx_0 rfl, zx_0 rfl, zx_2c rfl, zx_0 rfl, zx_0 rfl, zx_2c rfl, zx_0 rfl, zx_0 rfl, zx_0 rfl, zx_0 rfl, zx_0 rfl, zx_1 rfl⟩
/-- X5_secondaryStart -/
theorem z64 :
  (∀ (ls : zL) (st : zS) (h : zH), zx 64 0 ls st h = zgo 64 (zpure (.aload_n 0) 1 0 [] ls st h)) ∧
  (∀ (ls : zL) (st : zS) (h : zH), zx 64 1 ls st h = zgo 64 (zpure (.iload_n 1) 2 0 [] ls st h)) ∧
  (∀ (ls : zL) (st : zS) (h : zH), zx 64 2 ls st h = zca 64 2 5 ls 87 2 6 (ztake 2 st) h) ∧
  (∀ (ls : zL) (st : zS) (h : zH), zx 64 5 ls st h = zgo 64 (zpure (.astore_n 3) 6 0 [] ls st h)) ∧
  (∀ (ls : zL) (st : zS) (h : zH), zx 64 6 ls st h = zgo 64 (zpure (.iload_n 2) 7 0 [] ls st h)) ∧
  (∀ (ls : zL) (st : zS) (h : zH), zx 64 7 ls st h = zgo 64 (zpure (.ifCond .lt 14) 10 21 [] ls st h)) ∧
  (∀ (ls : zL) (st : zS) (h : zH), zx 64 10 ls st h = zgo 64 (zpure (.iload_n 2) 11 0 [] ls st h)) ∧
  (∀ (ls : zL) (st : zS) (h : zH), zx 64 11 ls st h = zgo 64 (zpure (.aload_n 3) 12 0 [] ls st h)) ∧
  (∀ (ls : zL) (st : zS) (h : zH), zx 64 12 ls st h = zgo 64 (zpure (.getfield 143) 15 0 [1, 3] ls st h)) ∧
  (∀ (ls : zL) (st : zS) (h : zH), zx 64 15 ls st h = zca 64 15 18 ls 175 1 8 (ztake 1 st) h) ∧
  (∀ (ls : zL) (st : zS) (h : zH), zx 64 18 ls st h = zgo 64 (zpure (.if_icmp .lt 13) 21 31 [] ls st h)) ∧
  (∀ (ls : zL) (st : zS) (h : zH), zx 64 21 ls st h = (if st.length ≤ 4 then some (.inr 2, zchg h 1 6) else none)) ∧
  (∀ (ls : zL) (st : zS) (h : zH), zx 64 31 ls st h = zgo 64 (zpure (.aload_n 3) 32 0 [] ls st h)) ∧
  (∀ (ls : zL) (st : zS) (h : zH), zx 64 32 ls st h = zgo 64 (zpure (.getfield 143) 35 0 [1, 3] ls st h)) ∧
  (∀ (ls : zL) (st : zS) (h : zH), zx 64 35 ls st h = zgo 64 (zpure (.iload_n 2) 36 0 [] ls st h)) ∧
  (∀ (ls : zL) (st : zS) (h : zH), zx 64 36 ls st h = zca 64 36 39 ls 171 2 8 (ztake 2 st) h) ∧
  (∀ (ls : zL) (st : zS) (h : zH), zx 64 39 ls st h = zgo 64 (zpure (.checkcast 148) 42 0 [3] ls st h)) ∧
  (∀ (ls : zL) (st : zS) (h : zH), zx 64 42 ls st h = zgo 64 (zpure (.astore 4) 44 0 [] ls st h)) ∧
  (∀ (ls : zL) (st : zS) (h : zH), zx 64 44 ls st h = zgo 64 (zpure (.aload_n 0) 45 0 [] ls st h)) ∧
  (∀ (ls : zL) (st : zS) (h : zH), zx 64 45 ls st h = zca 64 45 48 ls 91 4 6 (ztake 1 st) h) ∧
  (∀ (ls : zL) (st : zS) (h : zH), zx 64 48 ls st h = zgo 64 (zpure (.aload 4) 50 0 [] ls st h)) ∧
  (∀ (ls : zL) (st : zS) (h : zH), zx 64 50 ls st h = zgo 64 (zpure (.aload_n 3) 51 0 [] ls st h)) ∧
  (∀ (ls : zL) (st : zS) (h : zH), zx 64 51 ls st h = zgo 64 (zpure (.getfield 182) 54 0 [1, 7] ls st h)) ∧
  (∀ (ls : zL) (st : zS) (h : zH), zx 64 54 ls st h = zgo 64 (zpure (.aload_n 3) 55 0 [] ls st h)) ∧
  (∀ (ls : zL) (st : zS) (h : zH), zx 64 55 ls st h = zgo 64 (zpure (.getfield 170) 58 0 [1, 8] ls st h)) ∧
  (∀ (ls : zL) (st : zS) (h : zH), zx 64 58 ls st h = zca 64 58 61 ls 25 3 4 (ztake 3 st) h) ∧
  (∀ (ls : zL) (st : zS) (h : zH), zx 64 61 ls st h = zgo 64 (zpure (.istore 5) 63 0 [] ls st h)) ∧
  (∀ (ls : zL) (st : zS) (h : zH), zx 64 63 ls st h = zgo 64 (zpure (.iload 5) 65 0 [] ls st h)) ∧
  (∀ (ls : zL) (st : zS) (h : zH), zx 64 65 ls st h = zgo 64 (zpure (.aload 4) 67 0 [] ls st h)) ∧
  (∀ (ls : zL) (st : zS) (h : zH), zx 64 67 ls st h = zgo 64 (zpure (.aload_n 3) 68 0 [] ls st h)) ∧
  (∀ (ls : zL) (st : zS) (h : zH), zx 64 68 ls st h = zgo 64 (zpure (.getfield 182) 71 0 [1, 7] ls st h)) ∧
  (∀ (ls : zL) (st : zS) (h : zH), zx 64 71 ls st h = zgo 64 (zpure (.aload_n 3) 72 0 [] ls st h)) ∧
  (∀ (ls : zL) (st : zS) (h : zH), zx 64 72 ls st h = zgo 64 (zpure (.getfield 170) 75 0 [1, 8] ls st h)) ∧
  (∀ (ls : zL) (st : zS) (h : zH), zx 64 75 ls st h = zca 64 75 78 ls 26 3 4 (ztake 3 st) h) ∧
  (∀ (ls : zL) (st : zS) (h : zH), zx 64 78 ls st h = zgo 64 (zpure (.if_icmp .lt 13) 81 91 [] ls st h)) ∧
  (∀ (ls : zL) (st : zS) (h : zH), zx 64 81 ls st h = (if st.length ≤ 4 then some (.inr 4, zchg h 1 6) else none)) ∧
  (∀ (ls : zL) (st : zS) (h : zH), zx 64 91 ls st h = zgo 64 (zpure (.iload 5) 93 0 [] ls st h)) ∧
  (∀ (ls : zL) (st : zS) (h : zH), zx 64 93 ls st h = zret 0 st h) :=
  ⟨zx_0 rfl, zx_0 rfl, zx_2c rfl, zx_0 rfl, zx_0 rfl, zx_0 rfl, zx_0 rfl, zx_0 rfl, zx_0 rfl, zx_2c rfl, zx_0 rfl, zx_3c rfl rfl, zx_0 rfl, zx_0 rfl, zx_0 rfl, zx_2c rfl, zx_0 rfl, zx_0 rfl, zx_0 rfl, zx_2c rfl, zx_0 rfl, zx_0 rfl, zx_0 rfl, zx_0 rfl, zx_0 rfl, zx_2c rfl, zx_0 rfl, zx_0 rfl, zx_0 rfl, zx_0 rfl, zx_0 rfl, zx_0 rfl, zx_0 rfl, zx_2c rfl, zx_0 rfl, zx_3c rfl rfl, zx_0 rfl, zx_1 rfl⟩
/-- X5_meanLevel -/
theorem z65 :
  (∀ (ls : zL) (st : zS) (h : zH), zx 65 0 ls st h = zgo 65 (zpure (.aload_n 0) 1 0 [] ls st h)) ∧
  (∀ (ls : zL) (st : zS) (h : zH), zx 65 1 ls st h = zca 65 1 4 ls 91 4 6 (ztake 1 st) h) ∧
  (∀ (ls : zL) (st : zS) (h : zH), zx 65 4 ls st h = zgo 65 (zpure (.aload_n 0) 5 0 [] ls st h)) ∧
  (∀ (ls : zL) (st : zS) (h : zH), zx 65 5 ls st h = zca 65 5 8 ls 100 6 6 (ztake 1 st) h) ∧
  (∀ (ls : zL) (st : zS) (h : zH), zx 65 8 ls st h = zret 5 st h) :=
  ⟨zx_0 rfl, zx_2c rfl, zx_0 rfl, zx_2c rfl, zx_1 rfl⟩
/-- X5_meanLevelBits -/
theorem z66 :
  (∀ (ls : zL) (st : zS) (h : zH), zx 66 0 ls st h = zgo 66 (zpure (.aload_n 0) 1 0 [] ls st h)) ∧
  (∀ (ls : zL) (st : zS) (h : zH), zx 66 1 ls st h = zca 66 1 4 ls 91 4 6 (ztake 1 st) h) ∧
  (∀ (ls : zL) (st : zS) (h : zH), zx 66 4 ls st h = zgo 66 (zpure (.aload_n 0) 5 0 [] ls st h)) ∧
  (∀ (ls : zL) (st : zS) (h : zH), zx 66 5 ls st h = zca 66 5 8 ls 100 6 6 (ztake 1 st) h) ∧
  (∀ (ls : zL) (st : zS) (h : zH), zx 66 8 ls st h = zca 66 8 11 ls 101 5 0 (ztake 1 st) h) ∧
  (∀ (ls : zL) (st : zS) (h : zH), zx 66 11 ls st h = zret 0 st h) :=
  ⟨zx_0 rfl, zx_2c rfl, zx_0 rfl, zx_2c rfl, zx_2c rfl, zx_1 rfl⟩
/-- X5_fill -/
theorem z67 :
  (∀ (ls : zL) (st : zS) (h : zH), zx 67 0 ls st h = zgo 67 (zpure (.aload_n 0) 1 0 [] ls st h)) ∧
  (∀ (ls : zL) (st : zS) (h : zH), zx 67 1 ls st h = zgo 67 (zpure (.iload_n 1) 2 0 [] ls st h)) ∧
  (∀ (ls : zL) (st : zS) (h : zH), zx 67 2 ls st h = zgo 67 (zpure (.iload_n 2) 3 0 [] ls st h)) ∧
  (∀ (ls : zL) (st : zS) (h : zH), zx 67 3 ls st h = zca 67 3 6 ls 89 4 6 (ztake 3 st) h) ∧
  (∀ (ls : zL) (st : zS) (h : zH), zx 67 6 ls st h = zca 67 6 9 ls 182 1 0 (ztake 1 st) h) ∧
  (∀ (ls : zL) (st : zS) (h : zH), zx 67 9 ls st h = zret 0 st h) :=
  ⟨zx_0 rfl, zx_0 rfl, zx_0 rfl, zx_2c rfl, zx_2c rfl, zx_1 rfl⟩
/-- X5_fillByTrying -/
theorem z68 :
  (∀ (ls : zL) (st : zS) (h : zH), zx 68 0 ls st h = zgo 68 (zpure (.iload_n 1) 1 0 [] ls st h)) ∧
  (∀ (ls : zL) (st : zS) (h : zH), zx 68 1 ls st h = zgo 68 (zpure (.iload_n 2) 2 0 [] ls st h)) ∧
  (∀ (ls : zL) (st : zS) (h : zH), zx 68 2 ls st h = zca 68 2 5 ls 85 2 0 (ztake 2 st) h) ∧
  (∀ (ls : zL) (st : zS) (h : zH), zx 68 5 ls st h = zgo 68 (zpure (.aload_n 0) 6 0 [] ls st h)) ∧
  (∀ (ls : zL) (st : zS) (h : zH), zx 68 6 ls st h = zgo 68 (zpure (.getfield 32) 9 0 [5, 4] ls st h)) ∧
  (∀ (ls : zL) (st : zS) (h : zH), zx 68 9 ls st h = zgo 68 (zpure (.iload_n 1) 10 0 [] ls st h)) ∧
  (∀ (ls : zL) (st : zS) (h : zH), zx 68 10 ls st h = zca 68 10 13 ls 23 6 3 (ztake 2 st) h) ∧
  (∀ (ls : zL) (st : zS) (h : zH), zx 68 13 ls st h = zgo 68 (zpure (.istore_n 3) 14 0 [] ls st h)) ∧
  (∀ (ls : zL) (st : zS) (h : zH), zx 68 14 ls st h = zgo 68 (zpure (.iload_n 3) 15 0 [] ls st h)) ∧
  (∀ (ls : zL) (st : zS) (h : zH), zx 68 15 ls st h = zgo 68 (zpure (.iconst 1) 16 0 [] ls st h)) ∧
  (∀ (ls : zL) (st : zS) (h : zH), zx 68 16 ls st h = zgo 68 (zpure (.if_icmp .ge 13) 19 29 [] ls st h)) ∧
  (∀ (ls : zL) (st : zS) (h : zH), zx 68 19 ls st h = (if st.length ≤ 4 then some (.inr 4, zchg h 1 6) else none)) ∧
  (∀ (ls : zL) (st : zS) (h : zH), zx 68 29 ls st h = zgo 68 (zpure (.iload_n 3) 30 0 [] ls st h)) ∧
  (∀ (ls : zL) (st : zS) (h : zH), zx 68 30 ls st h = zret 0 st h) :=
  ⟨zx_0 rfl, zx_0 rfl, zx_2c rfl, zx_0 rfl, zx_0 rfl, zx_0 rfl, zx_2c rfl, zx_0 rfl, zx_0 rfl, zx_0 rfl, zx_0 rfl, zx_3c rfl rfl, zx_0 rfl, zx_1 rfl⟩
theorem z69_14 : ∀ (ls : zL) (st : zS) (h : zH), zx 69 14 ls st h = zgo 69 (zpure (.iload 6) 16 0 [] ls st h) := zx_0 rfl
/-- X5_fillAt -/
theorem z69 :
  (∀ (ls : zL) (st : zS) (h : zH), zx 69 0 ls st h = zgo 69 (zpure (.aload_n 0) 1 0 [] ls st h)) ∧
  (∀ (ls : zL) (st : zS) (h : zH), zx 69 1 ls st h = zgo 69 (zpure (.iload_n 1) 2 0 [] ls st h)) ∧
  (∀ (ls : zL) (st : zS) (h : zH), zx 69 2 ls st h = zgo 69 (zpure (.iload_n 2) 3 0 [] ls st h)) ∧
  (∀ (ls : zL) (st : zS) (h : zH), zx 69 3 ls st h = zca 69 3 6 ls 89 4 6 (ztake 3 st) h) ∧
  (∀ (ls : zL) (st : zS) (h : zH), zx 69 6 ls st h = zgo 69 (zpure (.istore 4) 8 0 [] ls st h)) ∧
  (∀ (ls : zL) (st : zS) (h : zH), zx 69 8 ls st h = zgo 69 (zpure (.iconst 0) 9 0 [] ls st h)) ∧
  (∀ (ls : zL) (st : zS) (h : zH), zx 69 9 ls st h = zgo 69 (zpure (.istore 5) 11 0 [] ls st h)) ∧
  (∀ (ls : zL) (st : zS) (h : zH), zx 69 11 ls st h = zgo 69 (zpure (.iconst 0) 12 0 [] ls st h)) ∧
  (∀ (ls : zL) (st : zS) (h : zH), zx 69 12 ls st h = zgo 69 (zpure (.istore 6) 14 0 [] ls st h)) ∧
  (∀ (ls : zL) (st : zS) (h : zH), zx 69 16 ls st h = zgo 69 (zpure (.aload_n 0) 17 0 [] ls st h)) ∧
  (∀ (ls : zL) (st : zS) (h : zH), zx 69 17 ls st h = zgo 69 (zpure (.getfield 32) 20 0 [5, 4] ls st h)) ∧
  (∀ (ls : zL) (st : zS) (h : zH), zx 69 20 ls st h = zgo 69 (zpure (.getfield 254) 23 0 [2, 3] ls st h)) ∧
  (∀ (ls : zL) (st : zS) (h : zH), zx 69 23 ls st h = zgo 69 (zpure (.if_icmp .ge 42) 26 65 [] ls st h)) ∧
  (∀ (ls : zL) (st : zS) (h : zH), zx 69 26 ls st h = zgo 69 (zpure (.aload_n 0) 27 0 [] ls st h)) ∧
  (∀ (ls : zL) (st : zS) (h : zH), zx 69 27 ls st h = zgo 69 (zpure (.getfield 32) 30 0 [5, 4] ls st h)) ∧
  (∀ (ls : zL) (st : zS) (h : zH), zx 69 30 ls st h = zgo 69 (zpure (.iload 4) 32 0 [] ls st h)) ∧
  (∀ (ls : zL) (st : zS) (h : zH), zx 69 32 ls st h = zgo 69 (zpure (.iload 6) 34 0 [] ls st h)) ∧
  (∀ (ls : zL) (st : zS) (h : zH), zx 69 34 ls st h = zca 69 34 37 ls 10 3 3 (ztake 3 st) h) ∧
  (∀ (ls : zL) (st : zS) (h : zH), zx 69 37 ls st h = zgo 69 (zpure (.ifCond .eq 22) 40 59 [] ls st h)) ∧
  (∀ (ls : zL) (st : zS) (h : zH), zx 69 40 ls st h = zgo 69 (zpure (.iload 5) 42 0 [] ls st h)) ∧
  (∀ (ls : zL) (st : zS) (h : zH), zx 69 42 ls st h = zgo 69 (zpure (.iload_n 3) 43 0 [] ls st h)) ∧
  (∀ (ls : zL) (st : zS) (h : zH), zx 69 43 ls st h = zgo 69 (zpure (.if_icmp .ne 13) 46 56 [] ls st h)) ∧
  (∀ (ls : zL) (st : zS) (h : zH), zx 69 46 ls st h = zgo 69 (zpure (.aload_n 0) 47 0 [] ls st h)) ∧
  (∀ (ls : zL) (st : zS) (h : zH), zx 69 47 ls st h = zgo 69 (zpure (.getfield 32) 50 0 [5, 4] ls st h)) ∧
  (∀ (ls : zL) (st : zS) (h : zH), zx 69 50 ls st h = zgo 69 (zpure (.iload 6) 52 0 [] ls st h)) ∧
  (∀ (ls : zL) (st : zS) (h : zH), zx 69 52 ls st h = zca 69 52 55 ls 11 2 3 (ztake 2 st) h) ∧
  (∀ (ls : zL) (st : zS) (h : zH), zx 69 55 ls st h = zret 0 st h) ∧
  (∀ (ls : zL) (st : zS) (h : zH), zx 69 56 ls st h = zgo 69 (zpure (.iinc 5 1) 59 0 [] ls st h)) ∧
  (∀ (ls : zL) (st : zS) (h : zH), zx 69 59 ls st h = zgo 69 (zpure (.iinc 6 1) 62 0 [] ls st h)) ∧
  (∀ (ls : zL) (st : zS) (h : zH), zx 69 62 ls st h = zgo 69 (zpure (.goto (-48)) 65 14 [] ls st h)) ∧
  (∀ (ls : zL) (st : zS) (h : zH), zx 69 65 ls st h = (if st.length ≤ 4 then some (.inr 4, zchg h 1 6) else none)) :=
  ⟨zx_0 rfl, zx_0 rfl, zx_0 rfl, zx_2c rfl, zx_0 rfl, zx_0 rfl, zx_0 rfl, zx_0 rfl, zx_0 rfl, zx_0 rfl, zx_0 rfl, zx_0 rfl, zx_0 rfl, zx_0 rfl, zx_0 rfl, zx_0 rfl, zx_0 rfl, zx_2c rfl, zx_0 rfl, zx_0 rfl, zx_0 rfl, zx_0 rfl, zx_0 rfl, zx_0 rfl, zx_0 rfl, zx_2c rfl, zx_1 rfl, zx_0 rfl, zx_0 rfl, zx_0 rfl, zx_3c rfl rfl⟩
/-- X5_deviation -/
theorem z70 :
  (∀ (ls : zL) (st : zS) (h : zH), zx 70 0 ls st h = zgo 70 (zpure (.aload_n 0) 1 0 [] ls st h)) ∧
  (∀ (ls : zL) (st : zS) (h : zH), zx 70 1 ls st h = zgo 70 (zpure (.getfield 32) 4 0 [5, 4] ls st h)) ∧
  (∀ (ls : zL) (st : zS) (h : zH), zx 70 4 ls st h = zgo 70 (zpure (.aload_n 0) 5 0 [] ls st h)) ∧
  (∀ (ls : zL) (st : zS) (h : zH), zx 70 5 ls st h = zgo 70 (zpure (.iload_n 1) 6 0 [] ls st h)) ∧
  (∀ (ls : zL) (st : zS) (h : zH), zx 70 6 ls st h = zgo 70 (zpure (.iload_n 2) 7 0 [] ls st h)) ∧
  (∀ (ls : zL) (st : zS) (h : zH), zx 70 7 ls st h = zca 70 7 10 ls 89 4 6 (ztake 3 st) h) ∧
  (∀ (ls : zL) (st : zS) (h : zH), zx 70 10 ls st h = zgo 70 (zpure (.iload_n 1) 11 0 [] ls st h)) ∧
  (∀ (ls : zL) (st : zS) (h : zH), zx 70 11 ls st h = zgo 70 (zpure (.iload_n 2) 12 0 [] ls st h)) ∧
  (∀ (ls : zL) (st : zS) (h : zH), zx 70 12 ls st h = zca 70 12 15 ls 14 6 3 (ztake 4 st) h) ∧
  (∀ (ls : zL) (st : zS) (h : zH), zx 70 15 ls st h = zret 5 st h) :=
  ⟨zx_0 rfl, zx_0 rfl, zx_0 rfl, zx_0 rfl, zx_0 rfl, zx_2c rfl, zx_0 rfl, zx_0 rfl, zx_2c rfl, zx_1 rfl⟩
/-- X5_air -/
theorem z71 :
  (∀ (ls : zL) (st : zS) (h : zH), zx 71 0 ls st h = zgo 71 (zpure (.aload_n 0) 1 0 [] ls st h)) ∧
  (∀ (ls : zL) (st : zS) (h : zH), zx 71 1 ls st h = zgo 71 (zpure (.getfield 36) 4 0 [5, 5] ls st h)) ∧
  (∀ (ls : zL) (st : zS) (h : zH), zx 71 4 ls st h = zgo 71 (zpure (.sipush 999) 7 0 [] ls st h)) ∧
  (∀ (ls : zL) (st : zS) (h : zH), zx 71 7 ls st h = zgo 71 (zpure (.if_icmp .lt 14) 10 21 [] ls st h)) ∧
  (∀ (ls : zL) (st : zS) (h : zH), zx 71 10 ls st h = (if st.length ≤ 4 then some (.inr 1, zchg h 1 6) else none)) ∧
  (∀ (ls : zL) (st : zS) (h : zH), zx 71 21 ls st h = zgo 71 (zpure (.aload_n 0) 22 0 [] ls st h)) ∧
  (∀ (ls : zL) (st : zS) (h : zH), zx 71 22 ls st h = zca 71 22 25 ls 91 4 6 (ztake 1 st) h) ∧
  (∀ (ls : zL) (st : zS) (h : zH), zx 71 25 ls st h = zgo 71 (zpure (.aload_n 0) 26 0 [] ls st h)) ∧
  (∀ (ls : zL) (st : zS) (h : zH), zx 71 26 ls st h = zgo 71 (zpure (.getfield 26) 29 0 [5, 3] ls st h)) ∧
  (∀ (ls : zL) (st : zS) (h : zH), zx 71 29 ls st h = zgo 71 (zpure (.aload_n 0) 30 0 [] ls st h)) ∧
  (∀ (ls : zL) (st : zS) (h : zH), zx 71 30 ls st h = zgo 71 (zpure (.getfield 22) 33 0 [5, 2] ls st h)) ∧
  (∀ (ls : zL) (st : zS) (h : zH), zx 71 33 ls st h = zca 71 33 36 ls 32 3 5 (ztake 2 st) h) ∧
  (∀ (ls : zL) (st : zS) (h : zH), zx 71 36 ls st h = zgo 71 (zpure (.aload_n 0) 37 0 [] ls st h)) ∧
  (∀ (ls : zL) (st : zS) (h : zH), zx 71 37 ls st h = zgo 71 (zpure (.iconst 1) 38 0 [] ls st h)) ∧
  (∀ (ls : zL) (st : zS) (h : zH), zx 71 38 ls st h = zgo 71 (zpure (.putfield 44) 41 0 [5, 7, 1] ls st h)) ∧
  (∀ (ls : zL) (st : zS) (h : zH), zx 71 41 ls st h = zgo 71 (zpure (.aload_n 0) 42 0 [] ls st h)) ∧
  (∀ (ls : zL) (st : zS) (h : zH), zx 71 42 ls st h = zca 71 42 45 ls 98 3 6 (ztake 1 st) h) ∧
  (∀ (ls : zL) (st : zS) (h : zH), zx 71 45 ls st h = zgo 71 (zpure (.aload_n 0) 46 0 [] ls st h)) ∧
  (∀ (ls : zL) (st : zS) (h : zH), zx 71 46 ls st h = zca 71 46 49 ls 99 3 6 (ztake 1 st) h) ∧
  (∀ (ls : zL) (st : zS) (h : zH), zx 71 49 ls st h = zgo 71 (zpure (.aload_n 0) 50 0 [] ls st h)) ∧
  (∀ (ls : zL) (st : zS) (h : zH), zx 71 50 ls st h = zgo 71 (zpure .dup 51 0 [] ls st h)) ∧
  (∀ (ls : zL) (st : zS) (h : zH), zx 71 51 ls st h = zgo 71 (zpure (.getfield 36) 54 0 [5, 5] ls st h)) ∧
  (∀ (ls : zL) (st : zS) (h : zH), zx 71 54 ls st h = zgo 71 (zpure (.iconst 1) 55 0 [] ls st h)) ∧
  (∀ (ls : zL) (st : zS) (h : zH), zx 71 55 ls st h = zgo 71 (zpure .iadd 56 0 [] ls st h)) ∧
  (∀ (ls : zL) (st : zS) (h : zH), zx 71 56 ls st h = zgo 71 (zpure (.putfield 36) 59 0 [5, 5, 0] ls st h)) ∧
  (∀ (ls : zL) (st : zS) (h : zH), zx 71 59 ls st h = zgo 71 (zpure (.aload_n 0) 60 0 [] ls st h)) ∧
  (∀ (ls : zL) (st : zS) (h : zH), zx 71 60 ls st h = zgo 71 (zpure (.getfield 32) 63 0 [5, 4] ls st h)) ∧
  (∀ (ls : zL) (st : zS) (h : zH), zx 71 63 ls st h = zgo 71 (zpure (.aload_n 0) 64 0 [] ls st h)) ∧
  (∀ (ls : zL) (st : zS) (h : zH), zx 71 64 ls st h = zgo 71 (zpure (.getfield 12) 67 0 [5, 0] ls st h)) ∧
  (∀ (ls : zL) (st : zS) (h : zH), zx 71 67 ls st h = zgo 71 (zpure (.aload_n 0) 68 0 [] ls st h)) ∧
  (∀ (ls : zL) (st : zS) (h : zH), zx 71 68 ls st h = zgo 71 (zpure (.getfield 36) 71 0 [5, 5] ls st h)) ∧
  (∀ (ls : zL) (st : zS) (h : zH), zx 71 71 ls st h = zca 71 71 74 ls 9 7 3 (ztake 3 st) h) ∧
  (∀ (ls : zL) (st : zS) (h : zH), zx 71 74 ls st h = zgo 71 (zpure (.aload_n 0) 75 0 [] ls st h)) ∧
  (∀ (ls : zL) (st : zS) (h : zH), zx 71 75 ls st h = zgo 71 (zpure (.iconst 0) 76 0 [] ls st h)) ∧
  (∀ (ls : zL) (st : zS) (h : zH), zx 71 76 ls st h = zgo 71 (zpure (.putfield 40) 79 0 [5, 6, 1] ls st h)) ∧
  (∀ (ls : zL) (st : zS) (h : zH), zx 71 79 ls st h = zgo 71 (zpure (.aload_n 0) 80 0 [] ls st h)) ∧
  (∀ (ls : zL) (st : zS) (h : zH), zx 71 80 ls st h = zgo 71 (zpure (.getfield 26) 83 0 [5, 3] ls st h)) ∧
  (∀ (ls : zL) (st : zS) (h : zH), zx 71 83 ls st h = zgo 71 (zpure (.getfield 185) 86 0 [4, 3] ls st h)) ∧
  (∀ (ls : zL) (st : zS) (h : zH), zx 71 86 ls st h = zret 0 st h) :=
  ⟨zx_0 rfl, zx_0 rfl, zx_0 rfl, zx_0 rfl, zx_3c rfl rfl, zx_0 rfl, zx_2c rfl, zx_0 rfl, zx_0 rfl, zx_0 rfl, zx_0 rfl, zx_2c rfl, zx_0 rfl, zx_0 rfl, zx_0 rfl, zx_0 rfl, zx_2c rfl, zx_0 rfl, zx_2c rfl, zx_0 rfl, zx_0 rfl, zx_0 rfl, zx_0 rfl, zx_0 rfl, zx_0 rfl, zx_0 rfl, zx_0 rfl, zx_0 rfl, zx_0 rfl, zx_0 rfl, zx_0 rfl, zx_2c rfl, zx_0 rfl, zx_0 rfl, zx_0 rfl, zx_0 rfl, zx_0 rfl, zx_0 rfl, zx_1 rfl⟩
/-- X5_today -/
theorem z72 :
  (∀ (ls : zL) (st : zS) (h : zH), zx 72 0 ls st h = zgo 72 (zpure (.aload_n 0) 1 0 [] ls st h)) ∧
  (∀ (ls : zL) (st : zS) (h : zH), zx 72 1 ls st h = zgo 72 (zpure (.getfield 36) 4 0 [5, 5] ls st h)) ∧
  (∀ (ls : zL) (st : zS) (h : zH), zx 72 4 ls st h = zret 0 st h) :=
  ⟨zx_0 rfl, zx_0 rfl, zx_1 rfl⟩
/-- X5_entries -/
theorem z73 :
  (∀ (ls : zL) (st : zS) (h : zH), zx 73 0 ls st h = zgo 73 (zpure (.aload_n 0) 1 0 [] ls st h)) ∧
  (∀ (ls : zL) (st : zS) (h : zH), zx 73 1 ls st h = zgo 73 (zpure (.getfield 26) 4 0 [5, 3] ls st h)) ∧
  (∀ (ls : zL) (st : zS) (h : zH), zx 73 4 ls st h = zgo 73 (zpure (.getfield 185) 7 0 [4, 3] ls st h)) ∧
  (∀ (ls : zL) (st : zS) (h : zH), zx 73 7 ls st h = zret 0 st h) :=
  ⟨zx_0 rfl, zx_0 rfl, zx_0 rfl, zx_1 rfl⟩
/-- X5_entryClip -/
theorem z74 :
  (∀ (ls : zL) (st : zS) (h : zH), zx 74 0 ls st h = zgo 74 (zpure (.aload_n 0) 1 0 [] ls st h)) ∧
  (∀ (ls : zL) (st : zS) (h : zH), zx 74 1 ls st h = zgo 74 (zpure (.iload_n 1) 2 0 [] ls st h)) ∧
  (∀ (ls : zL) (st : zS) (h : zH), zx 74 2 ls st h = zca 74 2 5 ls 83 2 6 (ztake 2 st) h) ∧
  (∀ (ls : zL) (st : zS) (h : zH), zx 74 5 ls st h = zgo 74 (zpure (.aload_n 0) 6 0 [] ls st h)) ∧
  (∀ (ls : zL) (st : zS) (h : zH), zx 74 6 ls st h = zgo 74 (zpure (.getfield 26) 9 0 [5, 3] ls st h)) ∧
  (∀ (ls : zL) (st : zS) (h : zH), zx 74 9 ls st h = zgo 74 (zpure (.iload_n 1) 10 0 [] ls st h)) ∧
  (∀ (ls : zL) (st : zS) (h : zH), zx 74 10 ls st h = zca 74 10 13 ls 34 2 5 (ztake 2 st) h) ∧
  (∀ (ls : zL) (st : zS) (h : zH), zx 74 13 ls st h = zret 0 st h) :=
  ⟨zx_0 rfl, zx_0 rfl, zx_2c rfl, zx_0 rfl, zx_0 rfl, zx_0 rfl, zx_2c rfl, zx_1 rfl⟩
/-- X5_entryStart -/
theorem z75 :
  (∀ (ls : zL) (st : zS) (h : zH), zx 75 0 ls st h = zgo 75 (zpure (.aload_n 0) 1 0 [] ls st h)) ∧
  (∀ (ls : zL) (st : zS) (h : zH), zx 75 1 ls st h = zgo 75 (zpure (.iload_n 1) 2 0 [] ls st h)) ∧
  (∀ (ls : zL) (st : zS) (h : zH), zx 75 2 ls st h = zca 75 2 5 ls 83 2 6 (ztake 2 st) h) ∧
  (∀ (ls : zL) (st : zS) (h : zH), zx 75 5 ls st h = zgo 75 (zpure (.aload_n 0) 6 0 [] ls st h)) ∧
  (∀ (ls : zL) (st : zS) (h : zH), zx 75 6 ls st h = zgo 75 (zpure (.getfield 26) 9 0 [5, 3] ls st h)) ∧
  (∀ (ls : zL) (st : zS) (h : zH), zx 75 9 ls st h = zgo 75 (zpure (.iload_n 1) 10 0 [] ls st h)) ∧
  (∀ (ls : zL) (st : zS) (h : zH), zx 75 10 ls st h = zca 75 10 13 ls 35 2 5 (ztake 2 st) h) ∧
  (∀ (ls : zL) (st : zS) (h : zH), zx 75 13 ls st h = zret 0 st h) :=
  ⟨zx_0 rfl, zx_0 rfl, zx_2c rfl, zx_0 rfl, zx_0 rfl, zx_0 rfl, zx_2c rfl, zx_1 rfl⟩
/-- X5_apart -/
theorem z76 :
  (∀ (ls : zL) (st : zS) (h : zH), zx 76 0 ls st h = zgo 76 (zpure (.aload_n 0) 1 0 [] ls st h)) ∧
  (∀ (ls : zL) (st : zS) (h : zH), zx 76 1 ls st h = zgo 76 (zpure (.getfield 44) 4 0 [5, 7] ls st h)) ∧
  (∀ (ls : zL) (st : zS) (h : zH), zx 76 4 ls st h = zgo 76 (zpure (.ifCond .ne 14) 7 18 [] ls st h)) ∧
  (∀ (ls : zL) (st : zS) (h : zH), zx 76 7 ls st h = (if st.length ≤ 4 then some (.inr 4, zchg h 1 6) else none)) ∧
  (∀ (ls : zL) (st : zS) (h : zH), zx 76 18 ls st h = zgo 76 (zpure (.aload_n 0) 19 0 [] ls st h)) ∧
  (∀ (ls : zL) (st : zS) (h : zH), zx 76 19 ls st h = zca 76 19 22 ls 91 4 6 (ztake 1 st) h) ∧
  (∀ (ls : zL) (st : zS) (h : zH), zx 76 22 ls st h = zgo 76 (zpure (.aload_n 0) 23 0 [] ls st h)) ∧
  (∀ (ls : zL) (st : zS) (h : zH), zx 76 23 ls st h = zgo 76 (zpure (.getfield 22) 26 0 [5, 2] ls st h)) ∧
  (∀ (ls : zL) (st : zS) (h : zH), zx 76 26 ls st h = zgo 76 (zpure (.aload_n 0) 27 0 [] ls st h)) ∧
  (∀ (ls : zL) (st : zS) (h : zH), zx 76 27 ls st h = zgo 76 (zpure (.getfield 26) 30 0 [5, 3] ls st h)) ∧
  (∀ (ls : zL) (st : zS) (h : zH), zx 76 30 ls st h = zca 76 30 33 ls 40 7 5 (ztake 2 st) h) ∧
  (∀ (ls : zL) (st : zS) (h : zH), zx 76 33 ls st h = zret 0 st h) :=
  ⟨zx_0 rfl, zx_0 rfl, zx_0 rfl, zx_3c rfl rfl, zx_0 rfl, zx_2c rfl, zx_0 rfl, zx_0 rfl, zx_0 rfl, zx_0 rfl, zx_2c rfl, zx_1 rfl⟩
/-- X5_aired -/
theorem z77 :
  (∀ (ls : zL) (st : zS) (h : zH), zx 77 0 ls st h = zgo 77 (zpure (.aload_n 0) 1 0 [] ls st h)) ∧
  (∀ (ls : zL) (st : zS) (h : zH), zx 77 1 ls st h = zgo 77 (zpure (.iload_n 1) 2 0 [] ls st h)) ∧
  (∀ (ls : zL) (st : zS) (h : zH), zx 77 2 ls st h = zca 77 2 5 ls 80 2 6 (ztake 2 st) h) ∧
  (∀ (ls : zL) (st : zS) (h : zH), zx 77 5 ls st h = zgo 77 (zpure (.aload_n 0) 6 0 [] ls st h)) ∧
  (∀ (ls : zL) (st : zS) (h : zH), zx 77 6 ls st h = zgo 77 (zpure (.getfield 12) 9 0 [5, 0] ls st h)) ∧
  (∀ (ls : zL) (st : zS) (h : zH), zx 77 9 ls st h = zgo 77 (zpure (.iload_n 1) 10 0 [] ls st h)) ∧
  (∀ (ls : zL) (st : zS) (h : zH), zx 77 10 ls st h = zca 77 10 13 ls 171 2 8 (ztake 2 st) h) ∧
  (∀ (ls : zL) (st : zS) (h : zH), zx 77 13 ls st h = zgo 77 (zpure (.checkcast 65) 16 0 [0] ls st h)) ∧
  (∀ (ls : zL) (st : zS) (h : zH), zx 77 16 ls st h = zgo 77 (zpure (.getfield 292) 19 0 [0, 7] ls st h)) ∧
  (∀ (ls : zL) (st : zS) (h : zH), zx 77 19 ls st h = zret 4 st h) :=
  ⟨zx_0 rfl, zx_0 rfl, zx_2c rfl, zx_0 rfl, zx_0 rfl, zx_0 rfl, zx_2c rfl, zx_0 rfl, zx_0 rfl, zx_1 rfl⟩
/-- X5_checkClipValues -/
theorem z78 :
  (∀ (ls : zL) (st : zS) (h : zH), zx 78 0 ls st h = zgo 78 (zpure (.iload_n 0) 1 0 [] ls st h)) ∧
  (∀ (ls : zL) (st : zS) (h : zH), zx 78 1 ls st h = zgo 78 (zpure (.iconst 1) 2 0 [] ls st h)) ∧
  (∀ (ls : zL) (st : zS) (h : zH), zx 78 2 ls st h = zgo 78 (zpure (.if_icmp .lt 10) 5 12 [] ls st h)) ∧
  (∀ (ls : zL) (st : zS) (h : zH), zx 78 5 ls st h = zgo 78 (zpure (.iload_n 0) 6 0 [] ls st h)) ∧
  (∀ (ls : zL) (st : zS) (h : zH), zx 78 6 ls st h = zgo 78 (zpure (.sipush 900) 9 0 [] ls st h)) ∧
  (∀ (ls : zL) (st : zS) (h : zH), zx 78 9 ls st h = zgo 78 (zpure (.if_icmp .le 13) 12 22 [] ls st h)) ∧
  (∀ (ls : zL) (st : zS) (h : zH), zx 78 12 ls st h = (if st.length ≤ 4 then some (.inr 0, zchg h 1 6) else none)) ∧
  (∀ (ls : zL) (st : zS) (h : zH), zx 78 22 ls st h = zgo 78 (zpure (.iload_n 1) 23 0 [] ls st h)) ∧
  (∀ (ls : zL) (st : zS) (h : zH), zx 78 23 ls st h = zgo 78 (zpure (.bipush (-60)) 25 0 [] ls st h)) ∧
  (∀ (ls : zL) (st : zS) (h : zH), zx 78 25 ls st h = zgo 78 (zpure (.if_icmp .lt 7) 28 32 [] ls st h)) ∧
  (∀ (ls : zL) (st : zS) (h : zH), zx 78 28 ls st h = zgo 78 (zpure (.iload_n 1) 29 0 [] ls st h)) ∧
  (∀ (ls : zL) (st : zS) (h : zH), zx 78 29 ls st h = zgo 78 (zpure (.ifCond .le 14) 32 43 [] ls st h)) ∧
  (∀ (ls : zL) (st : zS) (h : zH), zx 78 32 ls st h = (if st.length ≤ 4 then some (.inr 0, zchg h 1 6) else none)) ∧
  (∀ (ls : zL) (st : zS) (h : zH), zx 78 43 ls st h = zgo 78 (zpure (.iload_n 2) 44 0 [] ls st h)) ∧
  (∀ (ls : zL) (st : zS) (h : zH), zx 78 44 ls st h = zgo 78 (zpure (.ifCond .lt 15) 47 59 [] ls st h)) ∧
  (∀ (ls : zL) (st : zS) (h : zH), zx 78 47 ls st h = zgo 78 (zpure (.iload_n 3) 48 0 [] ls st h)) ∧
  (∀ (ls : zL) (st : zS) (h : zH), zx 78 48 ls st h = zgo 78 (zpure (.sipush 999) 51 0 [] ls st h)) ∧
  (∀ (ls : zL) (st : zS) (h : zH), zx 78 51 ls st h = zgo 78 (zpure (.if_icmp .gt 8) 54 59 [] ls st h)) ∧
  (∀ (ls : zL) (st : zS) (h : zH), zx 78 54 ls st h = zgo 78 (zpure (.iload_n 3) 55 0 [] ls st h)) ∧
  (∀ (ls : zL) (st : zS) (h : zH), zx 78 55 ls st h = zgo 78 (zpure (.iload_n 2) 56 0 [] ls st h)) ∧
  (∀ (ls : zL) (st : zS) (h : zH), zx 78 56 ls st h = zgo 78 (zpure (.if_icmp .ge 14) 59 70 [] ls st h)) ∧
  (∀ (ls : zL) (st : zS) (h : zH), zx 78 59 ls st h = (if st.length ≤ 4 then some (.inr 0, zchg h 1 6) else none)) ∧
  (∀ (ls : zL) (st : zS) (h : zH), zx 78 70 ls st h = zret 8 st h) :=
  ⟨zx_0 rfl, zx_0 rfl, zx_0 rfl, zx_0 rfl, zx_0 rfl, zx_0 rfl, zx_3c rfl rfl, zx_0 rfl, zx_0 rfl, zx_0 rfl, zx_0 rfl, zx_0 rfl, zx_3c rfl rfl, zx_0 rfl, zx_0 rfl, zx_0 rfl, zx_0 rfl, zx_0 rfl, zx_0 rfl, zx_0 rfl, zx_0 rfl, zx_3c rfl rfl, zx_1 rfl⟩
/-- X5_checkRoomForClip -/
theorem z79 :
  (∀ (ls : zL) (st : zS) (h : zH), zx 79 0 ls st h = zgo 79 (zpure (.aload_n 0) 1 0 [] ls st h)) ∧
  (∀ (ls : zL) (st : zS) (h : zH), zx 79 1 ls st h = zgo 79 (zpure (.getfield 12) 4 0 [5, 0] ls st h)) ∧
  (∀ (ls : zL) (st : zS) (h : zH), zx 79 4 ls st h = zca 79 4 7 ls 175 1 8 (ztake 1 st) h) ∧
  (∀ (ls : zL) (st : zS) (h : zH), zx 79 7 ls st h = zgo 79 (zpure (.bipush 12) 9 0 [] ls st h)) ∧
  (∀ (ls : zL) (st : zS) (h : zH), zx 79 9 ls st h = zgo 79 (zpure (.if_icmp .lt 14) 12 23 [] ls st h)) ∧
  (∀ (ls : zL) (st : zS) (h : zH), zx 79 12 ls st h = (if st.length ≤ 4 then some (.inr 1, zchg h 1 6) else none)) ∧
  (∀ (ls : zL) (st : zS) (h : zH), zx 79 23 ls st h = zret 8 st h) :=
  ⟨zx_0 rfl, zx_0 rfl, zx_2c rfl, zx_0 rfl, zx_0 rfl, zx_3c rfl rfl, zx_1 rfl⟩
/-- X5_checkClipNumber -/
theorem z80 :
  (∀ (ls : zL) (st : zS) (h : zH), zx 80 0 ls st h = zgo 80 (zpure (.iload_n 1) 1 0 [] ls st h)) ∧
  (∀ (ls : zL) (st : zS) (h : zH), zx 80 1 ls st h = zgo 80 (zpure (.ifCond .lt 14) 4 15 [] ls st h)) ∧
  (∀ (ls : zL) (st : zS) (h : zH), zx 80 4 ls st h = zgo 80 (zpure (.iload_n 1) 5 0 [] ls st h)) ∧
  (∀ (ls : zL) (st : zS) (h : zH), zx 80 5 ls st h = zgo 80 (zpure (.aload_n 0) 6 0 [] ls st h)) ∧
  (∀ (ls : zL) (st : zS) (h : zH), zx 80 6 ls st h = zgo 80 (zpure (.getfield 12) 9 0 [5, 0] ls st h)) ∧
  (∀ (ls : zL) (st : zS) (h : zH), zx 80 9 ls st h = zca 80 9 12 ls 175 1 8 (ztake 1 st) h) ∧
  (∀ (ls : zL) (st : zS) (h : zH), zx 80 12 ls st h = zgo 80 (zpure (.if_icmp .lt 14) 15 26 [] ls st h)) ∧
  (∀ (ls : zL) (st : zS) (h : zH), zx 80 15 ls st h = (if st.length ≤ 4 then some (.inr 2, zchg h 1 6) else none)) ∧
  (∀ (ls : zL) (st : zS) (h : zH), zx 80 26 ls st h = zret 8 st h) :=
  ⟨zx_0 rfl, zx_0 rfl, zx_0 rfl, zx_0 rfl, zx_0 rfl, zx_2c rfl, zx_0 rfl, zx_3c rfl rfl, zx_1 rfl⟩
/-- X5_checkPosition -/
theorem z81 :
  (∀ (ls : zL) (st : zS) (h : zH), zx 81 0 ls st h = zgo 81 (zpure (.iload_n 1) 1 0 [] ls st h)) ∧
  (∀ (ls : zL) (st : zS) (h : zH), zx 81 1 ls st h = zgo 81 (zpure (.ifCond .lt 14) 4 15 [] ls st h)) ∧
  (∀ (ls : zL) (st : zS) (h : zH), zx 81 4 ls st h = zgo 81 (zpure (.iload_n 1) 5 0 [] ls st h)) ∧
  (∀ (ls : zL) (st : zS) (h : zH), zx 81 5 ls st h = zgo 81 (zpure (.aload_n 0) 6 0 [] ls st h)) ∧
  (∀ (ls : zL) (st : zS) (h : zH), zx 81 6 ls st h = zgo 81 (zpure (.getfield 16) 9 0 [5, 1] ls st h)) ∧
  (∀ (ls : zL) (st : zS) (h : zH), zx 81 9 ls st h = zca 81 9 12 ls 175 1 8 (ztake 1 st) h) ∧
  (∀ (ls : zL) (st : zS) (h : zH), zx 81 12 ls st h = zgo 81 (zpure (.if_icmp .lt 14) 15 26 [] ls st h)) ∧
  (∀ (ls : zL) (st : zS) (h : zH), zx 81 15 ls st h = (if st.length ≤ 4 then some (.inr 2, zchg h 1 6) else none)) ∧
  (∀ (ls : zL) (st : zS) (h : zH), zx 81 26 ls st h = zret 8 st h) :=
  ⟨zx_0 rfl, zx_0 rfl, zx_0 rfl, zx_0 rfl, zx_0 rfl, zx_2c rfl, zx_0 rfl, zx_3c rfl rfl, zx_1 rfl⟩
/-- X5_checkSpan -/
theorem z82 :
  (∀ (ls : zL) (st : zS) (h : zH), zx 82 0 ls st h = zgo 82 (zpure (.iload_n 1) 1 0 [] ls st h)) ∧
  (∀ (ls : zL) (st : zS) (h : zH), zx 82 1 ls st h = zgo 82 (zpure (.ifCond .lt 14) 4 15 [] ls st h)) ∧
  (∀ (ls : zL) (st : zS) (h : zH), zx 82 4 ls st h = zgo 82 (zpure (.iload_n 1) 5 0 [] ls st h)) ∧
  (∀ (ls : zL) (st : zS) (h : zH), zx 82 5 ls st h = zgo 82 (zpure (.aload_n 0) 6 0 [] ls st h)) ∧
  (∀ (ls : zL) (st : zS) (h : zH), zx 82 6 ls st h = zgo 82 (zpure (.getfield 22) 9 0 [5, 2] ls st h)) ∧
  (∀ (ls : zL) (st : zS) (h : zH), zx 82 9 ls st h = zgo 82 (zpure (.getfield 185) 12 0 [4, 3] ls st h)) ∧
  (∀ (ls : zL) (st : zS) (h : zH), zx 82 12 ls st h = zgo 82 (zpure (.if_icmp .lt 14) 15 26 [] ls st h)) ∧
  (∀ (ls : zL) (st : zS) (h : zH), zx 82 15 ls st h = (if st.length ≤ 4 then some (.inr 2, zchg h 1 6) else none)) ∧
  (∀ (ls : zL) (st : zS) (h : zH), zx 82 26 ls st h = zret 8 st h) :=
  ⟨zx_0 rfl, zx_0 rfl, zx_0 rfl, zx_0 rfl, zx_0 rfl, zx_0 rfl, zx_0 rfl, zx_3c rfl rfl, zx_1 rfl⟩
/-- X5_checkEntry -/
theorem z83 :
  (∀ (ls : zL) (st : zS) (h : zH), zx 83 0 ls st h = zgo 83 (zpure (.iload_n 1) 1 0 [] ls st h)) ∧
  (∀ (ls : zL) (st : zS) (h : zH), zx 83 1 ls st h = zgo 83 (zpure (.ifCond .lt 14) 4 15 [] ls st h)) ∧
  (∀ (ls : zL) (st : zS) (h : zH), zx 83 4 ls st h = zgo 83 (zpure (.iload_n 1) 5 0 [] ls st h)) ∧
  (∀ (ls : zL) (st : zS) (h : zH), zx 83 5 ls st h = zgo 83 (zpure (.aload_n 0) 6 0 [] ls st h)) ∧
  (∀ (ls : zL) (st : zS) (h : zH), zx 83 6 ls st h = zgo 83 (zpure (.getfield 26) 9 0 [5, 3] ls st h)) ∧
  (∀ (ls : zL) (st : zS) (h : zH), zx 83 9 ls st h = zgo 83 (zpure (.getfield 185) 12 0 [4, 3] ls st h)) ∧
  (∀ (ls : zL) (st : zS) (h : zH), zx 83 12 ls st h = zgo 83 (zpure (.if_icmp .lt 14) 15 26 [] ls st h)) ∧
  (∀ (ls : zL) (st : zS) (h : zH), zx 83 15 ls st h = (if st.length ≤ 4 then some (.inr 2, zchg h 1 6) else none)) ∧
  (∀ (ls : zL) (st : zS) (h : zH), zx 83 26 ls st h = zret 8 st h) :=
  ⟨zx_0 rfl, zx_0 rfl, zx_0 rfl, zx_0 rfl, zx_0 rfl, zx_0 rfl, zx_0 rfl, zx_3c rfl rfl, zx_1 rfl⟩
/-- X5_checkSecond -/
theorem z84 :
  (∀ (ls : zL) (st : zS) (h : zH), zx 84 0 ls st h = zgo 84 (zpure (.iload_n 0) 1 0 [] ls st h)) ∧
  (∀ (ls : zL) (st : zS) (h : zH), zx 84 1 ls st h = zgo 84 (zpure (.ifCond .lt 10) 4 11 [] ls st h)) ∧
  (∀ (ls : zL) (st : zS) (h : zH), zx 84 4 ls st h = zgo 84 (zpure (.iload_n 0) 5 0 [] ls st h)) ∧
  (∀ (ls : zL) (st : zS) (h : zH), zx 84 5 ls st h = zgo 84 (zpure (.sipush 3600) 8 0 [] ls st h)) ∧
  (∀ (ls : zL) (st : zS) (h : zH), zx 84 8 ls st h = zgo 84 (zpure (.if_icmp .lt 14) 11 22 [] ls st h)) ∧
  (∀ (ls : zL) (st : zS) (h : zH), zx 84 11 ls st h = (if st.length ≤ 4 then some (.inr 0, zchg h 1 6) else none)) ∧
  (∀ (ls : zL) (st : zS) (h : zH), zx 84 22 ls st h = zret 8 st h) :=
  ⟨zx_0 rfl, zx_0 rfl, zx_0 rfl, zx_0 rfl, zx_0 rfl, zx_3c rfl rfl, zx_1 rfl⟩
/-- X5_checkGap -/
theorem z85 :
  (∀ (ls : zL) (st : zS) (h : zH), zx 85 0 ls st h = zgo 85 (zpure (.iload_n 0) 1 0 [] ls st h)) ∧
  (∀ (ls : zL) (st : zS) (h : zH), zx 85 1 ls st h = zgo 85 (zpure (.iconst 1) 2 0 [] ls st h)) ∧
  (∀ (ls : zL) (st : zS) (h : zH), zx 85 2 ls st h = zgo 85 (zpure (.if_icmp .lt 10) 5 12 [] ls st h)) ∧
  (∀ (ls : zL) (st : zS) (h : zH), zx 85 5 ls st h = zgo 85 (zpure (.iload_n 0) 6 0 [] ls st h)) ∧
  (∀ (ls : zL) (st : zS) (h : zH), zx 85 6 ls st h = zgo 85 (zpure (.sipush 3600) 9 0 [] ls st h)) ∧
  (∀ (ls : zL) (st : zS) (h : zH), zx 85 9 ls st h = zgo 85 (zpure (.if_icmp .le 14) 12 23 [] ls st h)) ∧
  (∀ (ls : zL) (st : zS) (h : zH), zx 85 12 ls st h = (if st.length ≤ 4 then some (.inr 0, zchg h 1 6) else none)) ∧
  (∀ (ls : zL) (st : zS) (h : zH), zx 85 23 ls st h = zgo 85 (zpure (.iload_n 1) 24 0 [] ls st h)) ∧
  (∀ (ls : zL) (st : zS) (h : zH), zx 85 24 ls st h = zgo 85 (zpure (.bipush (-60)) 26 0 [] ls st h)) ∧
  (∀ (ls : zL) (st : zS) (h : zH), zx 85 26 ls st h = zgo 85 (zpure (.if_icmp .lt 7) 29 33 [] ls st h)) ∧
  (∀ (ls : zL) (st : zS) (h : zH), zx 85 29 ls st h = zgo 85 (zpure (.iload_n 1) 30 0 [] ls st h)) ∧
  (∀ (ls : zL) (st : zS) (h : zH), zx 85 30 ls st h = zgo 85 (zpure (.ifCond .le 14) 33 44 [] ls st h)) ∧
  (∀ (ls : zL) (st : zS) (h : zH), zx 85 33 ls st h = (if st.length ≤ 4 then some (.inr 0, zchg h 1 6) else none)) ∧
  (∀ (ls : zL) (st : zS) (h : zH), zx 85 44 ls st h = zret 8 st h) :=
  ⟨zx_0 rfl, zx_0 rfl, zx_0 rfl, zx_0 rfl, zx_0 rfl, zx_0 rfl, zx_3c rfl rfl, zx_0 rfl, zx_0 rfl, zx_0 rfl, zx_0 rfl, zx_0 rfl, zx_3c rfl rfl, zx_1 rfl⟩
/-- X5_programmeNumbered -/
theorem z86 :
  (∀ (ls : zL) (st : zS) (h : zH), zx 86 0 ls st h = zgo 86 (zpure (.aload_n 0) 1 0 [] ls st h)) ∧
  (∀ (ls : zL) (st : zS) (h : zH), zx 86 1 ls st h = zgo 86 (zpure (.iload_n 1) 2 0 [] ls st h)) ∧
  (∀ (ls : zL) (st : zS) (h : zH), zx 86 2 ls st h = zca 86 2 5 ls 80 2 6 (ztake 2 st) h) ∧
  (∀ (ls : zL) (st : zS) (h : zH), zx 86 5 ls st h = zgo 86 (zpure (.aload_n 0) 6 0 [] ls st h)) ∧
  (∀ (ls : zL) (st : zS) (h : zH), zx 86 6 ls st h = zgo 86 (zpure (.getfield 12) 9 0 [5, 0] ls st h)) ∧
  (∀ (ls : zL) (st : zS) (h : zH), zx 86 9 ls st h = zgo 86 (zpure (.iload_n 1) 10 0 [] ls st h)) ∧
  (∀ (ls : zL) (st : zS) (h : zH), zx 86 10 ls st h = zca 86 10 13 ls 171 2 8 (ztake 2 st) h) ∧
  (∀ (ls : zL) (st : zS) (h : zH), zx 86 13 ls st h = zgo 86 (zpure (.checkcast 65) 16 0 [0] ls st h)) ∧
  (∀ (ls : zL) (st : zS) (h : zH), zx 86 16 ls st h = zgo 86 (zpure (.astore_n 2) 17 0 [] ls st h)) ∧
  (∀ (ls : zL) (st : zS) (h : zH), zx 86 17 ls st h = zgo 86 (zpure (.aload_n 2) 18 0 [] ls st h)) ∧
  (∀ (ls : zL) (st : zS) (h : zH), zx 86 18 ls st h = zgo 86 (zpure (.getfield 314) 21 0 [0, 1] ls st h)) ∧
  (∀ (ls : zL) (st : zS) (h : zH), zx 86 21 ls st h = zgo 86 (zpure (.ifCond .eq 14) 24 35 [] ls st h)) ∧
  (∀ (ls : zL) (st : zS) (h : zH), zx 86 24 ls st h = (if st.length ≤ 4 then some (.inr 3, zchg h 1 6) else none)) ∧
  (∀ (ls : zL) (st : zS) (h : zH), zx 86 35 ls st h = zgo 86 (zpure (.aload_n 2) 36 0 [] ls st h)) ∧
  (∀ (ls : zL) (st : zS) (h : zH), zx 86 36 ls st h = zret 7 st h) :=
  ⟨zx_0 rfl, zx_0 rfl, zx_2c rfl, zx_0 rfl, zx_0 rfl, zx_0 rfl, zx_2c rfl, zx_0 rfl, zx_0 rfl, zx_0 rfl, zx_0 rfl, zx_0 rfl, zx_3c rfl rfl, zx_0 rfl, zx_1 rfl⟩
/-- X5_eventAt -/
theorem z87 :
  (∀ (ls : zL) (st : zS) (h : zH), zx 87 0 ls st h = zgo 87 (zpure (.aload_n 0) 1 0 [] ls st h)) ∧
  (∀ (ls : zL) (st : zS) (h : zH), zx 87 1 ls st h = zgo 87 (zpure (.iload_n 1) 2 0 [] ls st h)) ∧
  (∀ (ls : zL) (st : zS) (h : zH), zx 87 2 ls st h = zca 87 2 5 ls 81 2 6 (ztake 2 st) h) ∧
  (∀ (ls : zL) (st : zS) (h : zH), zx 87 5 ls st h = zgo 87 (zpure (.aload_n 0) 6 0 [] ls st h)) ∧
  (∀ (ls : zL) (st : zS) (h : zH), zx 87 6 ls st h = zgo 87 (zpure (.getfield 16) 9 0 [5, 1] ls st h)) ∧
  (∀ (ls : zL) (st : zS) (h : zH), zx 87 9 ls st h = zgo 87 (zpure (.iload_n 1) 10 0 [] ls st h)) ∧
  (∀ (ls : zL) (st : zS) (h : zH), zx 87 10 ls st h = zca 87 10 13 ls 171 2 8 (ztake 2 st) h) ∧
  (∀ (ls : zL) (st : zS) (h : zH), zx 87 13 ls st h = zgo 87 (zpure (.checkcast 106) 16 0 [1] ls st h)) ∧
  (∀ (ls : zL) (st : zS) (h : zH), zx 87 16 ls st h = zret 7 st h) :=
  ⟨zx_0 rfl, zx_0 rfl, zx_2c rfl, zx_0 rfl, zx_0 rfl, zx_0 rfl, zx_2c rfl, zx_0 rfl, zx_1 rfl⟩
/-- X5_eventOnAir -/
theorem z88 :
  (∀ (ls : zL) (st : zS) (h : zH), zx 88 0 ls st h = zgo 88 (zpure (.aload_n 0) 1 0 [] ls st h)) ∧
  (∀ (ls : zL) (st : zS) (h : zH), zx 88 1 ls st h = zgo 88 (zpure (.iload_n 1) 2 0 [] ls st h)) ∧
  (∀ (ls : zL) (st : zS) (h : zH), zx 88 2 ls st h = zca 88 2 5 ls 87 2 6 (ztake 2 st) h) ∧
  (∀ (ls : zL) (st : zS) (h : zH), zx 88 5 ls st h = zgo 88 (zpure (.astore_n 2) 6 0 [] ls st h)) ∧
  (∀ (ls : zL) (st : zS) (h : zH), zx 88 6 ls st h = zgo 88 (zpure (.aload_n 2) 7 0 [] ls st h)) ∧
  (∀ (ls : zL) (st : zS) (h : zH), zx 88 7 ls st h = zca 88 7 10 ls 6 1 2 (ztake 1 st) h) ∧
  (∀ (ls : zL) (st : zS) (h : zH), zx 88 10 ls st h = zgo 88 (zpure (.ifCond .ne 14) 13 24 [] ls st h)) ∧
  (∀ (ls : zL) (st : zS) (h : zH), zx 88 13 ls st h = (if st.length ≤ 4 then some (.inr 4, zchg h 1 6) else none)) ∧
  (∀ (ls : zL) (st : zS) (h : zH), zx 88 24 ls st h = zgo 88 (zpure (.aload_n 2) 25 0 [] ls st h)) ∧
  (∀ (ls : zL) (st : zS) (h : zH), zx 88 25 ls st h = zret 7 st h) :=
  ⟨zx_0 rfl, zx_0 rfl, zx_2c rfl, zx_0 rfl, zx_0 rfl, zx_2c rfl, zx_0 rfl, zx_3c rfl rfl, zx_0 rfl, zx_1 rfl⟩
/-- X5_choiceFor -/
theorem z89 :
  (∀ (ls : zL) (st : zS) (h : zH), zx 89 0 ls st h = zgo 89 (zpure (.iload_n 1) 1 0 [] ls st h)) ∧
  (∀ (ls : zL) (st : zS) (h : zH), zx 89 1 ls st h = zgo 89 (zpure (.iload_n 2) 2 0 [] ls st h)) ∧
  (∀ (ls : zL) (st : zS) (h : zH), zx 89 2 ls st h = zca 89 2 5 ls 85 2 0 (ztake 2 st) h) ∧
  (∀ (ls : zL) (st : zS) (h : zH), zx 89 5 ls st h = zgo 89 (zpure (.aload_n 0) 6 0 [] ls st h)) ∧
  (∀ (ls : zL) (st : zS) (h : zH), zx 89 6 ls st h = zgo 89 (zpure (.getfield 32) 9 0 [5, 4] ls st h)) ∧
  (∀ (ls : zL) (st : zS) (h : zH), zx 89 9 ls st h = zgo 89 (zpure (.iload_n 1) 10 0 [] ls st h)) ∧
  (∀ (ls : zL) (st : zS) (h : zH), zx 89 10 ls st h = zgo 89 (zpure (.iload_n 2) 11 0 [] ls st h)) ∧
  (∀ (ls : zL) (st : zS) (h : zH), zx 89 11 ls st h = zca 89 11 14 ls 15 7 3 (ztake 3 st) h) ∧
  (∀ (ls : zL) (st : zS) (h : zH), zx 89 14 ls st h = zgo 89 (zpure (.istore_n 3) 15 0 [] ls st h)) ∧
  (∀ (ls : zL) (st : zS) (h : zH), zx 89 15 ls st h = zgo 89 (zpure (.iload_n 3) 16 0 [] ls st h)) ∧
  (∀ (ls : zL) (st : zS) (h : zH), zx 89 16 ls st h = zgo 89 (zpure (.ifCond .ne 13) 19 29 [] ls st h)) ∧
  (∀ (ls : zL) (st : zS) (h : zH), zx 89 19 ls st h = (if st.length ≤ 4 then some (.inr 4, zchg h 1 6) else none)) ∧
  (∀ (ls : zL) (st : zS) (h : zH), zx 89 29 ls st h = zgo 89 (zpure (.iload_n 3) 30 0 [] ls st h)) ∧
  (∀ (ls : zL) (st : zS) (h : zH), zx 89 30 ls st h = zret 0 st h) :=
  ⟨zx_0 rfl, zx_0 rfl, zx_2c rfl, zx_0 rfl, zx_0 rfl, zx_0 rfl, zx_0 rfl, zx_2c rfl, zx_0 rfl, zx_0 rfl, zx_0 rfl, zx_3c rfl rfl, zx_0 rfl, zx_1 rfl⟩
theorem z90_4 : ∀ (ls : zL) (st : zS) (h : zH), zx 90 4 ls st h = zgo 90 (zpure (.iload_n 2) 5 0 [] ls st h) := zx_0 rfl
/-- X5_numberOfPieces -/
theorem z90 :
  (∀ (ls : zL) (st : zS) (h : zH), zx 90 0 ls st h = zgo 90 (zpure (.iconst 0) 1 0 [] ls st h)) ∧
  (∀ (ls : zL) (st : zS) (h : zH), zx 90 1 ls st h = zgo 90 (zpure (.istore_n 1) 2 0 [] ls st h)) ∧
  (∀ (ls : zL) (st : zS) (h : zH), zx 90 2 ls st h = zgo 90 (zpure (.iconst 0) 3 0 [] ls st h)) ∧
  (∀ (ls : zL) (st : zS) (h : zH), zx 90 3 ls st h = zgo 90 (zpure (.istore_n 2) 4 0 [] ls st h)) ∧
  (∀ (ls : zL) (st : zS) (h : zH), zx 90 5 ls st h = zgo 90 (zpure (.aload_n 0) 6 0 [] ls st h)) ∧
  (∀ (ls : zL) (st : zS) (h : zH), zx 90 6 ls st h = zgo 90 (zpure (.getfield 12) 9 0 [5, 0] ls st h)) ∧
  (∀ (ls : zL) (st : zS) (h : zH), zx 90 9 ls st h = zca 90 9 12 ls 175 1 8 (ztake 1 st) h) ∧
  (∀ (ls : zL) (st : zS) (h : zH), zx 90 12 ls st h = zgo 90 (zpure (.if_icmp .ge 29) 15 41 [] ls st h)) ∧
  (∀ (ls : zL) (st : zS) (h : zH), zx 90 15 ls st h = zgo 90 (zpure (.aload_n 0) 16 0 [] ls st h)) ∧
  (∀ (ls : zL) (st : zS) (h : zH), zx 90 16 ls st h = zgo 90 (zpure (.getfield 12) 19 0 [5, 0] ls st h)) ∧
  (∀ (ls : zL) (st : zS) (h : zH), zx 90 19 ls st h = zgo 90 (zpure (.iload_n 2) 20 0 [] ls st h)) ∧
  (∀ (ls : zL) (st : zS) (h : zH), zx 90 20 ls st h = zca 90 20 23 ls 171 2 8 (ztake 2 st) h) ∧
  (∀ (ls : zL) (st : zS) (h : zH), zx 90 23 ls st h = zgo 90 (zpure (.checkcast 65) 26 0 [0] ls st h)) ∧
  (∀ (ls : zL) (st : zS) (h : zH), zx 90 26 ls st h = zgo 90 (zpure (.getfield 314) 29 0 [0, 1] ls st h)) ∧
  (∀ (ls : zL) (st : zS) (h : zH), zx 90 29 ls st h = zgo 90 (zpure (.ifCond .eq 6) 32 35 [] ls st h)) ∧
  (∀ (ls : zL) (st : zS) (h : zH), zx 90 32 ls st h = zgo 90 (zpure (.iinc 1 1) 35 0 [] ls st h)) ∧
  (∀ (ls : zL) (st : zS) (h : zH), zx 90 35 ls st h = zgo 90 (zpure (.iinc 2 1) 38 0 [] ls st h)) ∧
  (∀ (ls : zL) (st : zS) (h : zH), zx 90 38 ls st h = zgo 90 (zpure (.goto (-34)) 41 4 [] ls st h)) ∧
  (∀ (ls : zL) (st : zS) (h : zH), zx 90 41 ls st h = zgo 90 (zpure (.iload_n 1) 42 0 [] ls st h)) ∧
  (∀ (ls : zL) (st : zS) (h : zH), zx 90 42 ls st h = zret 0 st h) :=
  ⟨zx_0 rfl, zx_0 rfl, zx_0 rfl, zx_0 rfl, zx_0 rfl, zx_0 rfl, zx_2c rfl, zx_0 rfl, zx_0 rfl, zx_0 rfl, zx_0 rfl, zx_2c rfl, zx_0 rfl, zx_0 rfl, zx_0 rfl, zx_0 rfl, zx_0 rfl, zx_0 rfl, zx_0 rfl, zx_1 rfl⟩
theorem z91_16 : ∀ (ls : zL) (st : zS) (h : zH), zx 91 16 ls st h = zgo 91 (zpure (.iload_n 2) 17 0 [] ls st h) := zx_0 rfl
/-- X5_layOut -/
theorem z91 :
  (∀ (ls : zL) (st : zS) (h : zH), zx 91 0 ls st h = zgo 91 (zpure (.aload_n 0) 1 0 [] ls st h)) ∧
  (∀ (ls : zL) (st : zS) (h : zH), zx 91 1 ls st h = zgo 91 (zpure (.getfield 40) 4 0 [5, 6] ls st h)) ∧
  (∀ (ls : zL) (st : zS) (h : zH), zx 91 4 ls st h = zgo 91 (zpure (.ifCond .eq 4) 7 8 [] ls st h)) ∧
  (∀ (ls : zL) (st : zS) (h : zH), zx 91 7 ls st h = zret 8 st h) ∧
  (∀ (ls : zL) (st : zS) (h : zH), zx 91 8 ls st h = zgo 91 (zpure (.aload_n 0) 9 0 [] ls st h)) ∧
  (∀ (ls : zL) (st : zS) (h : zH), zx 91 9 ls st h = zca 91 9 12 ls 92 2 6 (ztake 1 st) h) ∧
  (∀ (ls : zL) (st : zS) (h : zH), zx 91 12 ls st h = zgo 91 (zpure (.iconst 0) 13 0 [] ls st h)) ∧
  (∀ (ls : zL) (st : zS) (h : zH), zx 91 13 ls st h = zgo 91 (zpure (.istore_n 1) 14 0 [] ls st h)) ∧
  (∀ (ls : zL) (st : zS) (h : zH), zx 91 14 ls st h = zgo 91 (zpure (.iconst 0) 15 0 [] ls st h)) ∧
  (∀ (ls : zL) (st : zS) (h : zH), zx 91 15 ls st h = zgo 91 (zpure (.istore_n 2) 16 0 [] ls st h)) ∧
  (∀ (ls : zL) (st : zS) (h : zH), zx 91 17 ls st h = zgo 91 (zpure (.aload_n 0) 18 0 [] ls st h)) ∧
  (∀ (ls : zL) (st : zS) (h : zH), zx 91 18 ls st h = zgo 91 (zpure (.getfield 16) 21 0 [5, 1] ls st h)) ∧
  (∀ (ls : zL) (st : zS) (h : zH), zx 91 21 ls st h = zca 91 21 24 ls 175 1 8 (ztake 1 st) h) ∧
  (∀ (ls : zL) (st : zS) (h : zH), zx 91 24 ls st h = zgo 91 (zpure (.if_icmp .ge 49) 27 73 [] ls st h)) ∧
  (∀ (ls : zL) (st : zS) (h : zH), zx 91 27 ls st h = zgo 91 (zpure (.aload_n 0) 28 0 [] ls st h)) ∧
  (∀ (ls : zL) (st : zS) (h : zH), zx 91 28 ls st h = zgo 91 (zpure (.getfield 16) 31 0 [5, 1] ls st h)) ∧
  (∀ (ls : zL) (st : zS) (h : zH), zx 91 31 ls st h = zgo 91 (zpure (.iload_n 2) 32 0 [] ls st h)) ∧
  (∀ (ls : zL) (st : zS) (h : zH), zx 91 32 ls st h = zca 91 32 35 ls 171 2 8 (ztake 2 st) h) ∧
  (∀ (ls : zL) (st : zS) (h : zH), zx 91 35 ls st h = zgo 91 (zpure (.checkcast 106) 38 0 [1] ls st h)) ∧
  (∀ (ls : zL) (st : zS) (h : zH), zx 91 38 ls st h = zgo 91 (zpure (.astore_n 3) 39 0 [] ls st h)) ∧
  (∀ (ls : zL) (st : zS) (h : zH), zx 91 39 ls st h = zgo 91 (zpure (.aload_n 3) 40 0 [] ls st h)) ∧
  (∀ (ls : zL) (st : zS) (h : zH), zx 91 40 ls st h = zgo 91 (zpure (.aload_n 0) 41 0 [] ls st h)) ∧
  (∀ (ls : zL) (st : zS) (h : zH), zx 91 41 ls st h = zgo 91 (zpure (.iload_n 2) 42 0 [] ls st h)) ∧
  (∀ (ls : zL) (st : zS) (h : zH), zx 91 42 ls st h = zgo 91 (zpure (.aload_n 3) 43 0 [] ls st h)) ∧
  (∀ (ls : zL) (st : zS) (h : zH), zx 91 43 ls st h = zgo 91 (zpure (.getfield 153) 46 0 [1, 0] ls st h)) ∧
  (∀ (ls : zL) (st : zS) (h : zH), zx 91 46 ls st h = zca 91 46 49 ls 93 6 6 (ztake 3 st) h) ∧
  (∀ (ls : zL) (st : zS) (h : zH), zx 91 49 ls st h = zgo 91 (zpure (.putfield 163) 52 0 [1, 5, 1] ls st h)) ∧
  (∀ (ls : zL) (st : zS) (h : zH), zx 91 52 ls st h = zgo 91 (zpure (.aload_n 3) 53 0 [] ls st h)) ∧
  (∀ (ls : zL) (st : zS) (h : zH), zx 91 53 ls st h = zgo 91 (zpure (.getfield 163) 56 0 [1, 5] ls st h)) ∧
  (∀ (ls : zL) (st : zS) (h : zH), zx 91 56 ls st h = zgo 91 (zpure (.ifCond .ne 11) 59 67 [] ls st h)) ∧
  (∀ (ls : zL) (st : zS) (h : zH), zx 91 59 ls st h = zgo 91 (zpure (.aload_n 0) 60 0 [] ls st h)) ∧
  (∀ (ls : zL) (st : zS) (h : zH), zx 91 60 ls st h = zgo 91 (zpure (.iload_n 2) 61 0 [] ls st h)) ∧
  (∀ (ls : zL) (st : zS) (h : zH), zx 91 61 ls st h = zgo 91 (zpure (.aload_n 3) 62 0 [] ls st h)) ∧
  (∀ (ls : zL) (st : zS) (h : zH), zx 91 62 ls st h = zgo 91 (zpure (.iload_n 1) 63 0 [] ls st h)) ∧
  (∀ (ls : zL) (st : zS) (h : zH), zx 91 63 ls st h = zca 91 63 66 ls 94 7 6 (ztake 4 st) h) ∧
  (∀ (ls : zL) (st : zS) (h : zH), zx 91 66 ls st h = zgo 91 (zpure (.istore_n 1) 67 0 [] ls st h)) ∧
  (∀ (ls : zL) (st : zS) (h : zH), zx 91 67 ls st h = zgo 91 (zpure (.iinc 2 1) 70 0 [] ls st h)) ∧
  (∀ (ls : zL) (st : zS) (h : zH), zx 91 70 ls st h = zgo 91 (zpure (.goto (-54)) 73 16 [] ls st h)) ∧
  (∀ (ls : zL) (st : zS) (h : zH), zx 91 73 ls st h = zgo 91 (zpure (.aload_n 0) 74 0 [] ls st h)) ∧
  (∀ (ls : zL) (st : zS) (h : zH), zx 91 74 ls st h = zgo 91 (zpure (.sipush 3600) 77 0 [] ls st h)) ∧
  (∀ (ls : zL) (st : zS) (h : zH), zx 91 77 ls st h = zca 91 77 80 ls 97 3 6 (ztake 2 st) h) ∧
  (∀ (ls : zL) (st : zS) (h : zH), zx 91 80 ls st h = zgo 91 (zpure (.iload_n 1) 81 0 [] ls st h)) ∧
  (∀ (ls : zL) (st : zS) (h : zH), zx 91 81 ls st h = zgo 91 (zpure (.sipush 3600) 84 0 [] ls st h)) ∧
  (∀ (ls : zL) (st : zS) (h : zH), zx 91 84 ls st h = zgo 91 (zpure (.if_icmp .ge 22) 87 106 [] ls st h)) ∧
  (∀ (ls : zL) (st : zS) (h : zH), zx 91 87 ls st h = zgo 91 (zpure (.aload_n 0) 88 0 [] ls st h)) ∧
  (∀ (ls : zL) (st : zS) (h : zH), zx 91 88 ls st h = zgo 91 (zpure (.iload_n 1) 89 0 [] ls st h)) ∧
  (∀ (ls : zL) (st : zS) (h : zH), zx 91 89 ls st h = zgo 91 (zpure (.sipush 3600) 92 0 [] ls st h)) ∧
  (∀ (ls : zL) (st : zS) (h : zH), zx 91 92 ls st h = zgo 91 (zpure (.aload_n 0) 93 0 [] ls st h)) ∧
  (∀ (ls : zL) (st : zS) (h : zH), zx 91 93 ls st h = zgo 91 (zpure (.aload_n 0) 94 0 [] ls st h)) ∧
  (∀ (ls : zL) (st : zS) (h : zH), zx 91 94 ls st h = zgo 91 (zpure (.getfield 16) 97 0 [5, 1] ls st h)) ∧
  (∀ (ls : zL) (st : zS) (h : zH), zx 91 97 ls st h = zca 91 97 100 ls 175 1 8 (ztake 1 st) h) ∧
  (∀ (ls : zL) (st : zS) (h : zH), zx 91 100 ls st h = zca 91 100 103 ls 96 4 6 (ztake 2 st) h) ∧
  (∀ (ls : zL) (st : zS) (h : zH), zx 91 103 ls st h = zca 91 103 106 ls 95 8 6 (ztake 4 st) h) ∧
  (∀ (ls : zL) (st : zS) (h : zH), zx 91 106 ls st h = zgo 91 (zpure (.aload_n 0) 107 0 [] ls st h)) ∧
  (∀ (ls : zL) (st : zS) (h : zH), zx 91 107 ls st h = zgo 91 (zpure (.iconst 1) 108 0 [] ls st h)) ∧
  (∀ (ls : zL) (st : zS) (h : zH), zx 91 108 ls st h = zgo 91 (zpure (.putfield 40) 111 0 [5, 6, 1] ls st h)) ∧
  (∀ (ls : zL) (st : zS) (h : zH), zx 91 111 ls st h = zret 8 st h) :=
  ⟨zx_0 rfl, zx_0 rfl, zx_0 rfl, zx_1 rfl, zx_0 rfl, zx_2c rfl, zx_0 rfl, zx_0 rfl, zx_0 rfl, zx_0 rfl, zx_0 rfl, zx_0 rfl, zx_2c rfl, zx_0 rfl, zx_0 rfl, zx_0 rfl, zx_0 rfl, zx_2c rfl, zx_0 rfl, zx_0 rfl, zx_0 rfl, zx_0 rfl, zx_0 rfl, zx_0 rfl, zx_0 rfl, zx_2c rfl, zx_0 rfl, zx_0 rfl, zx_0 rfl, zx_0 rfl, zx_0 rfl, zx_0 rfl, zx_0 rfl, zx_0 rfl, zx_2c rfl, zx_0 rfl, zx_0 rfl, zx_0 rfl, zx_0 rfl, zx_0 rfl, zx_2c rfl, zx_0 rfl, zx_0 rfl, zx_0 rfl, zx_0 rfl, zx_0 rfl, zx_0 rfl, zx_0 rfl, zx_0 rfl, zx_0 rfl, zx_2c rfl, zx_2c rfl, zx_2c rfl, zx_0 rfl, zx_0 rfl, zx_0 rfl, zx_1 rfl⟩
theorem z92_9 : ∀ (ls : zL) (st : zS) (h : zH), zx 92 9 ls st h = zgo 92 (zpure (.iload_n 1) 10 0 [] ls st h) := zx_0 rfl
/-- X5_clearAir -/
theorem z92 :
  (∀ (ls : zL) (st : zS) (h : zH), zx 92 0 ls st h = zgo 92 (zpure (.aload_n 0) 1 0 [] ls st h)) ∧
  (∀ (ls : zL) (st : zS) (h : zH), zx 92 1 ls st h = zgo 92 (zpure (.getfield 22) 4 0 [5, 2] ls st h)) ∧
  (∀ (ls : zL) (st : zS) (h : zH), zx 92 4 ls st h = zca 92 4 7 ls 29 1 5 (ztake 1 st) h) ∧
  (∀ (ls : zL) (st : zS) (h : zH), zx 92 7 ls st h = zgo 92 (zpure (.iconst 0) 8 0 [] ls st h)) ∧
  (∀ (ls : zL) (st : zS) (h : zH), zx 92 8 ls st h = zgo 92 (zpure (.istore_n 1) 9 0 [] ls st h)) ∧
  (∀ (ls : zL) (st : zS) (h : zH), zx 92 10 ls st h = zgo 92 (zpure (.aload_n 0) 11 0 [] ls st h)) ∧
  (∀ (ls : zL) (st : zS) (h : zH), zx 92 11 ls st h = zgo 92 (zpure (.getfield 16) 14 0 [5, 1] ls st h)) ∧
  (∀ (ls : zL) (st : zS) (h : zH), zx 92 14 ls st h = zca 92 14 17 ls 175 1 8 (ztake 1 st) h) ∧
  (∀ (ls : zL) (st : zS) (h : zH), zx 92 17 ls st h = zgo 92 (zpure (.if_icmp .ge 23) 20 40 [] ls st h)) ∧
  (∀ (ls : zL) (st : zS) (h : zH), zx 92 20 ls st h = zgo 92 (zpure (.aload_n 0) 21 0 [] ls st h)) ∧
  (∀ (ls : zL) (st : zS) (h : zH), zx 92 21 ls st h = zgo 92 (zpure (.getfield 16) 24 0 [5, 1] ls st h)) ∧
  (∀ (ls : zL) (st : zS) (h : zH), zx 92 24 ls st h = zgo 92 (zpure (.iload_n 1) 25 0 [] ls st h)) ∧
  (∀ (ls : zL) (st : zS) (h : zH), zx 92 25 ls st h = zca 92 25 28 ls 171 2 8 (ztake 2 st) h) ∧
  (∀ (ls : zL) (st : zS) (h : zH), zx 92 28 ls st h = zgo 92 (zpure (.checkcast 106) 31 0 [1] ls st h)) ∧
  (∀ (ls : zL) (st : zS) (h : zH), zx 92 31 ls st h = zca 92 31 34 ls 3 1 2 (ztake 1 st) h) ∧
  (∀ (ls : zL) (st : zS) (h : zH), zx 92 34 ls st h = zgo 92 (zpure (.iinc 1 1) 37 0 [] ls st h)) ∧
  (∀ (ls : zL) (st : zS) (h : zH), zx 92 37 ls st h = zgo 92 (zpure (.goto (-28)) 40 9 [] ls st h)) ∧
  (∀ (ls : zL) (st : zS) (h : zH), zx 92 40 ls st h = zret 8 st h) :=
  ⟨zx_0 rfl, zx_0 rfl, zx_2c rfl, zx_0 rfl, zx_0 rfl, zx_0 rfl, zx_0 rfl, zx_2c rfl, zx_0 rfl, zx_0 rfl, zx_0 rfl, zx_0 rfl, zx_2c rfl, zx_0 rfl, zx_2c rfl, zx_0 rfl, zx_0 rfl, zx_1 rfl⟩
theorem z93_18 : ∀ (ls : zL) (st : zS) (h : zH), zx 93 18 ls st h = zgo 93 (zpure (.iload 4) 20 0 [] ls st h) := zx_0 rfl
/-- X5_isBarred -/
theorem z93 :
  (∀ (ls : zL) (st : zS) (h : zH), zx 93 0 ls st h = zgo 93 (zpure (.aload_n 2) 1 0 [] ls st h)) ∧
  (∀ (ls : zL) (st : zS) (h : zH), zx 93 1 ls st h = zgo 93 (zpure (.aload_n 0) 2 0 [] ls st h)) ∧
  (∀ (ls : zL) (st : zS) (h : zH), zx 93 2 ls st h = zgo 93 (zpure (.getfield 36) 5 0 [5, 5] ls st h)) ∧
  (∀ (ls : zL) (st : zS) (h : zH), zx 93 5 ls st h = zca 93 5 8 ls 1 2 1 (ztake 2 st) h) ∧
  (∀ (ls : zL) (st : zS) (h : zH), zx 93 8 ls st h = zgo 93 (zpure (.ifCond .ne 5) 11 13 [] ls st h)) ∧
  (∀ (ls : zL) (st : zS) (h : zH), zx 93 11 ls st h = zgo 93 (zpure (.iconst 1) 12 0 [] ls st h)) ∧
  (∀ (ls : zL) (st : zS) (h : zH), zx 93 12 ls st h = zret 1 st h) ∧
  (∀ (ls : zL) (st : zS) (h : zH), zx 93 13 ls st h = zgo 93 (zpure (.iconst 0) 14 0 [] ls st h)) ∧
  (∀ (ls : zL) (st : zS) (h : zH), zx 93 14 ls st h = zgo 93 (zpure (.istore_n 3) 15 0 [] ls st h)) ∧
  (∀ (ls : zL) (st : zS) (h : zH), zx 93 15 ls st h = zgo 93 (zpure (.iconst 0) 16 0 [] ls st h)) ∧
  (∀ (ls : zL) (st : zS) (h : zH), zx 93 16 ls st h = zgo 93 (zpure (.istore 4) 18 0 [] ls st h)) ∧
  (∀ (ls : zL) (st : zS) (h : zH), zx 93 20 ls st h = zgo 93 (zpure (.iload_n 1) 21 0 [] ls st h)) ∧
  (∀ (ls : zL) (st : zS) (h : zH), zx 93 21 ls st h = zgo 93 (zpure (.if_icmp .ge 61) 24 82 [] ls st h)) ∧
  (∀ (ls : zL) (st : zS) (h : zH), zx 93 24 ls st h = zgo 93 (zpure (.iload 4) 26 0 [] ls st h)) ∧
  (∀ (ls : zL) (st : zS) (h : zH), zx 93 26 ls st h = zgo 93 (zpure (.aload_n 0) 27 0 [] ls st h)) ∧
  (∀ (ls : zL) (st : zS) (h : zH), zx 93 27 ls st h = zgo 93 (zpure (.getfield 16) 30 0 [5, 1] ls st h)) ∧
  (∀ (ls : zL) (st : zS) (h : zH), zx 93 30 ls st h = zca 93 30 33 ls 175 1 8 (ztake 1 st) h) ∧
  (∀ (ls : zL) (st : zS) (h : zH), zx 93 33 ls st h = zgo 93 (zpure (.if_icmp .ge 49) 36 82 [] ls st h)) ∧
  (∀ (ls : zL) (st : zS) (h : zH), zx 93 36 ls st h = zgo 93 (zpure (.aload_n 0) 37 0 [] ls st h)) ∧
  (∀ (ls : zL) (st : zS) (h : zH), zx 93 37 ls st h = zgo 93 (zpure (.getfield 16) 40 0 [5, 1] ls st h)) ∧
  (∀ (ls : zL) (st : zS) (h : zH), zx 93 40 ls st h = zgo 93 (zpure (.iload 4) 42 0 [] ls st h)) ∧
  (∀ (ls : zL) (st : zS) (h : zH), zx 93 42 ls st h = zca 93 42 45 ls 171 2 8 (ztake 2 st) h) ∧
  (∀ (ls : zL) (st : zS) (h : zH), zx 93 45 ls st h = zgo 93 (zpure (.checkcast 106) 48 0 [1] ls st h)) ∧
  (∀ (ls : zL) (st : zS) (h : zH), zx 93 48 ls st h = zgo 93 (zpure (.astore 5) 50 0 [] ls st h)) ∧
  (∀ (ls : zL) (st : zS) (h : zH), zx 93 50 ls st h = zgo 93 (zpure (.aload 5) 52 0 [] ls st h)) ∧
  (∀ (ls : zL) (st : zS) (h : zH), zx 93 52 ls st h = zgo 93 (zpure (.getfield 163) 55 0 [1, 5] ls st h)) ∧
  (∀ (ls : zL) (st : zS) (h : zH), zx 93 55 ls st h = zgo 93 (zpure (.ifCond .ne 21) 58 76 [] ls st h)) ∧
  (∀ (ls : zL) (st : zS) (h : zH), zx 93 58 ls st h = zgo 93 (zpure (.aload 5) 60 0 [] ls st h)) ∧
  (∀ (ls : zL) (st : zS) (h : zH), zx 93 60 ls st h = zgo 93 (zpure (.getfield 153) 63 0 [1, 0] ls st h)) ∧
  (∀ (ls : zL) (st : zS) (h : zH), zx 93 63 ls st h = zgo 93 (zpure (.getfield 157) 66 0 [0, 0] ls st h)) ∧
  (∀ (ls : zL) (st : zS) (h : zH), zx 93 66 ls st h = zgo 93 (zpure (.aload_n 2) 67 0 [] ls st h)) ∧
  (∀ (ls : zL) (st : zS) (h : zH), zx 93 67 ls st h = zgo 93 (zpure (.getfield 157) 70 0 [0, 0] ls st h)) ∧
  (∀ (ls : zL) (st : zS) (h : zH), zx 93 70 ls st h = zgo 93 (zpure (.if_icmp .ne 6) 73 76 [] ls st h)) ∧
  (∀ (ls : zL) (st : zS) (h : zH), zx 93 73 ls st h = zgo 93 (zpure (.iinc 3 1) 76 0 [] ls st h)) ∧
  (∀ (ls : zL) (st : zS) (h : zH), zx 93 76 ls st h = zgo 93 (zpure (.iinc 4 1) 79 0 [] ls st h)) ∧
  (∀ (ls : zL) (st : zS) (h : zH), zx 93 79 ls st h = zgo 93 (zpure (.goto (-61)) 82 18 [] ls st h)) ∧
  (∀ (ls : zL) (st : zS) (h : zH), zx 93 82 ls st h = zgo 93 (zpure (.iload_n 3) 83 0 [] ls st h)) ∧
  (∀ (ls : zL) (st : zS) (h : zH), zx 93 83 ls st h = zgo 93 (zpure (.aload_n 2) 84 0 [] ls st h)) ∧
  (∀ (ls : zL) (st : zS) (h : zH), zx 93 84 ls st h = zgo 93 (zpure (.getfield 90) 87 0 [0, 6] ls st h)) ∧
  (∀ (ls : zL) (st : zS) (h : zH), zx 93 87 ls st h = zgo 93 (zpure (.if_icmp .lt 7) 90 94 [] ls st h)) ∧
  (∀ (ls : zL) (st : zS) (h : zH), zx 93 90 ls st h = zgo 93 (zpure (.iconst 1) 91 0 [] ls st h)) ∧
  (∀ (ls : zL) (st : zS) (h : zH), zx 93 91 ls st h = zgo 93 (zpure (.goto 4) 94 95 [] ls st h)) ∧
  (∀ (ls : zL) (st : zS) (h : zH), zx 93 94 ls st h = zgo 93 (zpure (.iconst 0) 95 0 [] ls st h)) ∧
  (∀ (ls : zL) (st : zS) (h : zH), zx 93 95 ls st h = zret 1 st h) :=
  ⟨zx_0 rfl, zx_0 rfl, zx_0 rfl, zx_2c rfl, zx_0 rfl, zx_0 rfl, zx_1 rfl, zx_0 rfl, zx_0 rfl, zx_0 rfl, zx_0 rfl, zx_0 rfl, zx_0 rfl, zx_0 rfl, zx_0 rfl, zx_0 rfl, zx_2c rfl, zx_0 rfl, zx_0 rfl, zx_0 rfl, zx_0 rfl, zx_2c rfl, zx_0 rfl, zx_0 rfl, zx_0 rfl, zx_0 rfl, zx_0 rfl, zx_0 rfl, zx_0 rfl, zx_0 rfl, zx_0 rfl, zx_0 rfl, zx_0 rfl, zx_0 rfl, zx_0 rfl, zx_0 rfl, zx_0 rfl, zx_0 rfl, zx_0 rfl, zx_0 rfl, zx_0 rfl, zx_0 rfl, zx_0 rfl, zx_1 rfl⟩
/-- X5_layEvent -/
theorem z94 :
  (∀ (ls : zL) (st : zS) (h : zH), zx 94 0 ls st h = zgo 94 (zpure (.aload_n 2) 1 0 [] ls st h)) ∧
  (∀ (ls : zL) (st : zS) (h : zH), zx 94 1 ls st h = zgo 94 (zpure (.getfield 153) 4 0 [1, 0] ls st h)) ∧
  (∀ (ls : zL) (st : zS) (h : zH), zx 94 4 ls st h = zgo 94 (zpure (.getfield 358) 7 0 [0, 2] ls st h)) ∧
  (∀ (ls : zL) (st : zS) (h : zH), zx 94 7 ls st h = zgo 94 (zpure (.aload_n 2) 8 0 [] ls st h)) ∧
  (∀ (ls : zL) (st : zS) (h : zH), zx 94 8 ls st h = zgo 94 (zpure (.getfield 134) 11 0 [1, 4] ls st h)) ∧
  (∀ (ls : zL) (st : zS) (h : zH), zx 94 11 ls st h = zgo 94 (zpure .iadd 12 0 [] ls st h)) ∧
  (∀ (ls : zL) (st : zS) (h : zH), zx 94 12 ls st h = zgo 94 (zpure (.istore 4) 14 0 [] ls st h)) ∧
  (∀ (ls : zL) (st : zS) (h : zH), zx 94 14 ls st h = zgo 94 (zpure (.iload_n 3) 15 0 [] ls st h)) ∧
  (∀ (ls : zL) (st : zS) (h : zH), zx 94 15 ls st h = zgo 94 (zpure (.istore 5) 17 0 [] ls st h)) ∧
  (∀ (ls : zL) (st : zS) (h : zH), zx 94 17 ls st h = zgo 94 (zpure (.iload_n 3) 18 0 [] ls st h)) ∧
  (∀ (ls : zL) (st : zS) (h : zH), zx 94 18 ls st h = zgo 94 (zpure (.iload 4) 20 0 [] ls st h)) ∧
  (∀ (ls : zL) (st : zS) (h : zH), zx 94 20 ls st h = zgo 94 (zpure .iadd 21 0 [] ls st h)) ∧
  (∀ (ls : zL) (st : zS) (h : zH), zx 94 21 ls st h = zgo 94 (zpure (.istore 6) 23 0 [] ls st h)) ∧
  (∀ (ls : zL) (st : zS) (h : zH), zx 94 23 ls st h = zgo 94 (zpure (.aload_n 2) 24 0 [] ls st h)) ∧
  (∀ (ls : zL) (st : zS) (h : zH), zx 94 24 ls st h = zgo 94 (zpure (.getfield 361) 27 0 [1, 1] ls st h)) ∧
  (∀ (ls : zL) (st : zS) (h : zH), zx 94 27 ls st h = zgo 94 (zpure (.bipush 102) 29 0 [] ls st h)) ∧
  (∀ (ls : zL) (st : zS) (h : zH), zx 94 29 ls st h = zgo 94 (zpure (.if_icmp .eq 41) 32 70 [] ls st h)) ∧
  (∀ (ls : zL) (st : zS) (h : zH), zx 94 32 ls st h = zgo 94 (zpure (.aload_n 2) 33 0 [] ls st h)) ∧
  (∀ (ls : zL) (st : zS) (h : zH), zx 94 33 ls st h = zgo 94 (zpure (.getfield 365) 36 0 [1, 2] ls st h)) ∧
  (∀ (ls : zL) (st : zS) (h : zH), zx 94 36 ls st h = zgo 94 (zpure (.iload_n 3) 37 0 [] ls st h)) ∧
  (∀ (ls : zL) (st : zS) (h : zH), zx 94 37 ls st h = zgo 94 (zpure (.if_icmp .le 33) 40 70 [] ls st h)) ∧
  (∀ (ls : zL) (st : zS) (h : zH), zx 94 40 ls st h = zgo 94 (zpure (.aload_n 0) 41 0 [] ls st h)) ∧
  (∀ (ls : zL) (st : zS) (h : zH), zx 94 41 ls st h = zgo 94 (zpure (.iload_n 3) 42 0 [] ls st h)) ∧
  (∀ (ls : zL) (st : zS) (h : zH), zx 94 42 ls st h = zgo 94 (zpure (.aload_n 2) 43 0 [] ls st h)) ∧
  (∀ (ls : zL) (st : zS) (h : zH), zx 94 43 ls st h = zgo 94 (zpure (.getfield 365) 46 0 [1, 2] ls st h)) ∧
  (∀ (ls : zL) (st : zS) (h : zH), zx 94 46 ls st h = zgo 94 (zpure (.aload_n 0) 47 0 [] ls st h)) ∧
  (∀ (ls : zL) (st : zS) (h : zH), zx 94 47 ls st h = zgo 94 (zpure (.iload_n 1) 48 0 [] ls st h)) ∧
  (∀ (ls : zL) (st : zS) (h : zH), zx 94 48 ls st h = zca 94 48 51 ls 96 4 6 (ztake 2 st) h) ∧
  (∀ (ls : zL) (st : zS) (h : zH), zx 94 51 ls st h = zca 94 51 54 ls 95 8 6 (ztake 4 st) h) ∧
  (∀ (ls : zL) (st : zS) (h : zH), zx 94 54 ls st h = zgo 94 (zpure (.aload_n 2) 55 0 [] ls st h)) ∧
  (∀ (ls : zL) (st : zS) (h : zH), zx 94 55 ls st h = zgo 94 (zpure (.getfield 365) 58 0 [1, 2] ls st h)) ∧
  (∀ (ls : zL) (st : zS) (h : zH), zx 94 58 ls st h = zgo 94 (zpure (.istore 5) 60 0 [] ls st h)) ∧
  (∀ (ls : zL) (st : zS) (h : zH), zx 94 60 ls st h = zgo 94 (zpure (.iload 5) 62 0 [] ls st h)) ∧
  (∀ (ls : zL) (st : zS) (h : zH), zx 94 62 ls st h = zgo 94 (zpure (.iload 4) 64 0 [] ls st h)) ∧
  (∀ (ls : zL) (st : zS) (h : zH), zx 94 64 ls st h = zgo 94 (zpure .iadd 65 0 [] ls st h)) ∧
  (∀ (ls : zL) (st : zS) (h : zH), zx 94 65 ls st h = zgo 94 (zpure (.istore 6) 67 0 [] ls st h)) ∧
  (∀ (ls : zL) (st : zS) (h : zH), zx 94 67 ls st h = zgo 94 (zpure (.goto 54) 70 121 [] ls st h)) ∧
  (∀ (ls : zL) (st : zS) (h : zH), zx 94 70 ls st h = zgo 94 (zpure (.aload_n 2) 71 0 [] ls st h)) ∧
  (∀ (ls : zL) (st : zS) (h : zH), zx 94 71 ls st h = zgo 94 (zpure (.getfield 361) 74 0 [1, 1] ls st h)) ∧
  (∀ (ls : zL) (st : zS) (h : zH), zx 94 74 ls st h = zgo 94 (zpure (.bipush 99) 76 0 [] ls st h)) ∧
  (∀ (ls : zL) (st : zS) (h : zH), zx 94 76 ls st h = zgo 94 (zpure (.if_icmp .ne 27) 79 103 [] ls st h)) ∧
  (∀ (ls : zL) (st : zS) (h : zH), zx 94 79 ls st h = zgo 94 (zpure (.aload_n 0) 80 0 [] ls st h)) ∧
  (∀ (ls : zL) (st : zS) (h : zH), zx 94 80 ls st h = zgo 94 (zpure (.aload_n 2) 81 0 [] ls st h)) ∧
  (∀ (ls : zL) (st : zS) (h : zH), zx 94 81 ls st h = zgo 94 (zpure (.getfield 365) 84 0 [1, 2] ls st h)) ∧
  (∀ (ls : zL) (st : zS) (h : zH), zx 94 84 ls st h = zca 94 84 87 ls 97 3 6 (ztake 2 st) h) ∧
  (∀ (ls : zL) (st : zS) (h : zH), zx 94 87 ls st h = zgo 94 (zpure (.aload_n 2) 88 0 [] ls st h)) ∧
  (∀ (ls : zL) (st : zS) (h : zH), zx 94 88 ls st h = zgo 94 (zpure (.getfield 365) 91 0 [1, 2] ls st h)) ∧
  (∀ (ls : zL) (st : zS) (h : zH), zx 94 91 ls st h = zgo 94 (zpure (.istore 5) 93 0 [] ls st h)) ∧
  (∀ (ls : zL) (st : zS) (h : zH), zx 94 93 ls st h = zgo 94 (zpure (.iload 5) 95 0 [] ls st h)) ∧
  (∀ (ls : zL) (st : zS) (h : zH), zx 94 95 ls st h = zgo 94 (zpure (.iload 4) 97 0 [] ls st h)) ∧
  (∀ (ls : zL) (st : zS) (h : zH), zx 94 97 ls st h = zgo 94 (zpure .iadd 98 0 [] ls st h)) ∧
  (∀ (ls : zL) (st : zS) (h : zH), zx 94 98 ls st h = zgo 94 (zpure (.istore 6) 100 0 [] ls st h)) ∧
  (∀ (ls : zL) (st : zS) (h : zH), zx 94 100 ls st h = zgo 94 (zpure (.goto 21) 103 121 [] ls st h)) ∧
  (∀ (ls : zL) (st : zS) (h : zH), zx 94 103 ls st h = zgo 94 (zpure (.aload_n 2) 104 0 [] ls st h)) ∧
  (∀ (ls : zL) (st : zS) (h : zH), zx 94 104 ls st h = zgo 94 (zpure (.getfield 361) 107 0 [1, 1] ls st h)) ∧
  (∀ (ls : zL) (st : zS) (h : zH), zx 94 107 ls st h = zgo 94 (zpure (.bipush 106) 109 0 [] ls st h)) ∧
  (∀ (ls : zL) (st : zS) (h : zH), zx 94 109 ls st h = zgo 94 (zpure (.if_icmp .ne 12) 112 121 [] ls st h)) ∧
  (∀ (ls : zL) (st : zS) (h : zH), zx 94 112 ls st h = zgo 94 (zpure (.aload_n 2) 113 0 [] ls st h)) ∧
  (∀ (ls : zL) (st : zS) (h : zH), zx 94 113 ls st h = zgo 94 (zpure (.getfield 365) 116 0 [1, 2] ls st h)) ∧
  (∀ (ls : zL) (st : zS) (h : zH), zx 94 116 ls st h = zgo 94 (zpure (.iload 4) 118 0 [] ls st h)) ∧
  (∀ (ls : zL) (st : zS) (h : zH), zx 94 118 ls st h = zgo 94 (zpure .iadd 119 0 [] ls st h)) ∧
  (∀ (ls : zL) (st : zS) (h : zH), zx 94 119 ls st h = zgo 94 (zpure (.istore 6) 121 0 [] ls st h)) ∧
  (∀ (ls : zL) (st : zS) (h : zH), zx 94 121 ls st h = zgo 94 (zpure (.iload 6) 123 0 [] ls st h)) ∧
  (∀ (ls : zL) (st : zS) (h : zH), zx 94 123 ls st h = zgo 94 (zpure (.iload 5) 125 0 [] ls st h)) ∧
  (∀ (ls : zL) (st : zS) (h : zH), zx 94 125 ls st h = zgo 94 (zpure (.if_icmp .gt 5) 128 130 [] ls st h)) ∧
  (∀ (ls : zL) (st : zS) (h : zH), zx 94 128 ls st h = zgo 94 (zpure (.iload_n 3) 129 0 [] ls st h)) ∧
  (∀ (ls : zL) (st : zS) (h : zH), zx 94 129 ls st h = zret 0 st h) ∧
  (∀ (ls : zL) (st : zS) (h : zH), zx 94 130 ls st h = zgo 94 (zpure (.aload_n 2) 131 0 [] ls st h)) ∧
  (∀ (ls : zL) (st : zS) (h : zH), zx 94 131 ls st h = zgo 94 (zpure (.iload 5) 133 0 [] ls st h)) ∧
  (∀ (ls : zL) (st : zS) (h : zH), zx 94 133 ls st h = zgo 94 (zpure (.iload 6) 135 0 [] ls st h)) ∧
  (∀ (ls : zL) (st : zS) (h : zH), zx 94 135 ls st h = zca 94 135 138 ls 4 3 2 (ztake 3 st) h) ∧
  (∀ (ls : zL) (st : zS) (h : zH), zx 94 138 ls st h = zgo 94 (zpure (.aload_n 0) 139 0 [] ls st h)) ∧
  (∀ (ls : zL) (st : zS) (h : zH), zx 94 139 ls st h = zgo 94 (zpure (.getfield 22) 142 0 [5, 2] ls st h)) ∧
  (∀ (ls : zL) (st : zS) (h : zH), zx 94 142 ls st h = zgo 94 (zpure (.aload_n 2) 143 0 [] ls st h)) ∧
  (∀ (ls : zL) (st : zS) (h : zH), zx 94 143 ls st h = zgo 94 (zpure (.getfield 153) 146 0 [1, 0] ls st h)) ∧
  (∀ (ls : zL) (st : zS) (h : zH), zx 94 146 ls st h = zgo 94 (zpure (.getfield 157) 149 0 [0, 0] ls st h)) ∧
  (∀ (ls : zL) (st : zS) (h : zH), zx 94 149 ls st h = zgo 94 (zpure (.iload 5) 151 0 [] ls st h)) ∧
  (∀ (ls : zL) (st : zS) (h : zH), zx 94 151 ls st h = zgo 94 (zpure (.iload 6) 153 0 [] ls st h)) ∧
  (∀ (ls : zL) (st : zS) (h : zH), zx 94 153 ls st h = zca 94 153 156 ls 30 4 5 (ztake 4 st) h) ∧
  (∀ (ls : zL) (st : zS) (h : zH), zx 94 156 ls st h = zgo 94 (zpure (.iload 6) 158 0 [] ls st h)) ∧
  (∀ (ls : zL) (st : zS) (h : zH), zx 94 158 ls st h = zret 0 st h) :=
  ⟨zx_0 rfl, zx_0 rfl, zx_0 rfl, zx_0 rfl, zx_0 rfl, zx_0 rfl, zx_0 rfl, zx_0 rfl, zx_0 rfl, zx_0 rfl, zx_0 rfl, zx_0 rfl, zx_0 rfl, zx_0 rfl, zx_0 rfl, zx_0 rfl, zx_0 rfl, zx_0 rfl, zx_0 rfl, zx_0 rfl, zx_0 rfl, zx_0 rfl, zx_0 rfl, zx_0 rfl, zx_0 rfl, zx_0 rfl, zx_0 rfl, zx_2c rfl, zx_2c rfl, zx_0 rfl, zx_0 rfl, zx_0 rfl, zx_0 rfl, zx_0 rfl, zx_0 rfl, zx_0 rfl, zx_0 rfl, zx_0 rfl, zx_0 rfl, zx_0 rfl, zx_0 rfl, zx_0 rfl, zx_0 rfl, zx_0 rfl, zx_2c rfl, zx_0 rfl, zx_0 rfl, zx_0 rfl, zx_0 rfl, zx_0 rfl, zx_0 rfl, zx_0 rfl, zx_0 rfl, zx_0 rfl, zx_0 rfl, zx_0 rfl, zx_0 rfl, zx_0 rfl, zx_0 rfl, zx_0 rfl, zx_0 rfl, zx_0 rfl, zx_0 rfl, zx_0 rfl, zx_0 rfl, zx_0 rfl, zx_1 rfl, zx_0 rfl, zx_0 rfl, zx_0 rfl, zx_2c rfl, zx_0 rfl, zx_0 rfl, zx_0 rfl, zx_0 rfl, zx_0 rfl, zx_0 rfl, zx_0 rfl, zx_2c rfl, zx_0 rfl, zx_1 rfl⟩
theorem z95_35 : ∀ (ls : zL) (st : zS) (h : zH), zx 95 35 ls st h = zgo 95 (zpure (.iload 6) 37 0 [] ls st h) := zx_0 rfl
/-- X5_layGap -/
theorem z95 :
  (∀ (ls : zL) (st : zS) (h : zH), zx 95 0 ls st h = zgo 95 (zpure (.aload_n 0) 1 0 [] ls st h)) ∧
  (∀ (ls : zL) (st : zS) (h : zH), zx 95 1 ls st h = zgo 95 (zpure (.getfield 32) 4 0 [5, 4] ls st h)) ∧
  (∀ (ls : zL) (st : zS) (h : zH), zx 95 4 ls st h = zgo 95 (zpure (.iload_n 2) 5 0 [] ls st h)) ∧
  (∀ (ls : zL) (st : zS) (h : zH), zx 95 5 ls st h = zgo 95 (zpure (.iload_n 1) 6 0 [] ls st h)) ∧
  (∀ (ls : zL) (st : zS) (h : zH), zx 95 6 ls st h = zgo 95 (zpure .isub 7 0 [] ls st h)) ∧
  (∀ (ls : zL) (st : zS) (h : zH), zx 95 7 ls st h = zgo 95 (zpure (.iload_n 3) 8 0 [] ls st h)) ∧
  (∀ (ls : zL) (st : zS) (h : zH), zx 95 8 ls st h = zca 95 8 11 ls 15 7 3 (ztake 3 st) h) ∧
  (∀ (ls : zL) (st : zS) (h : zH), zx 95 11 ls st h = zgo 95 (zpure (.istore 4) 13 0 [] ls st h)) ∧
  (∀ (ls : zL) (st : zS) (h : zH), zx 95 13 ls st h = zgo 95 (zpure (.iload 4) 15 0 [] ls st h)) ∧
  (∀ (ls : zL) (st : zS) (h : zH), zx 95 15 ls st h = zgo 95 (zpure (.ifCond .ne 14) 18 29 [] ls st h)) ∧
  (∀ (ls : zL) (st : zS) (h : zH), zx 95 18 ls st h = zgo 95 (zpure (.aload_n 0) 19 0 [] ls st h)) ∧
  (∀ (ls : zL) (st : zS) (h : zH), zx 95 19 ls st h = zgo 95 (zpure (.getfield 22) 22 0 [5, 2] ls st h)) ∧
  (∀ (ls : zL) (st : zS) (h : zH), zx 95 22 ls st h = zgo 95 (zpure (.iconst (-1)) 23 0 [] ls st h)) ∧
  (∀ (ls : zL) (st : zS) (h : zH), zx 95 23 ls st h = zgo 95 (zpure (.iload_n 1) 24 0 [] ls st h)) ∧
  (∀ (ls : zL) (st : zS) (h : zH), zx 95 24 ls st h = zgo 95 (zpure (.iload_n 2) 25 0 [] ls st h)) ∧
  (∀ (ls : zL) (st : zS) (h : zH), zx 95 25 ls st h = zca 95 25 28 ls 30 4 5 (ztake 4 st) h) ∧
  (∀ (ls : zL) (st : zS) (h : zH), zx 95 28 ls st h = zret 8 st h) ∧
  (∀ (ls : zL) (st : zS) (h : zH), zx 95 29 ls st h = zgo 95 (zpure (.iload_n 1) 30 0 [] ls st h)) ∧
  (∀ (ls : zL) (st : zS) (h : zH), zx 95 30 ls st h = zgo 95 (zpure (.istore 5) 32 0 [] ls st h)) ∧
  (∀ (ls : zL) (st : zS) (h : zH), zx 95 32 ls st h = zgo 95 (zpure (.iconst 0) 33 0 [] ls st h)) ∧
  (∀ (ls : zL) (st : zS) (h : zH), zx 95 33 ls st h = zgo 95 (zpure (.istore 6) 35 0 [] ls st h)) ∧
  (∀ (ls : zL) (st : zS) (h : zH), zx 95 37 ls st h = zgo 95 (zpure (.aload_n 0) 38 0 [] ls st h)) ∧
  (∀ (ls : zL) (st : zS) (h : zH), zx 95 38 ls st h = zgo 95 (zpure (.getfield 32) 41 0 [5, 4] ls st h)) ∧
  (∀ (ls : zL) (st : zS) (h : zH), zx 95 41 ls st h = zgo 95 (zpure (.getfield 254) 44 0 [2, 3] ls st h)) ∧
  (∀ (ls : zL) (st : zS) (h : zH), zx 95 44 ls st h = zgo 95 (zpure (.if_icmp .ge 61) 47 105 [] ls st h)) ∧
  (∀ (ls : zL) (st : zS) (h : zH), zx 95 47 ls st h = zgo 95 (zpure (.aload_n 0) 48 0 [] ls st h)) ∧
  (∀ (ls : zL) (st : zS) (h : zH), zx 95 48 ls st h = zgo 95 (zpure (.getfield 32) 51 0 [5, 4] ls st h)) ∧
  (∀ (ls : zL) (st : zS) (h : zH), zx 95 51 ls st h = zgo 95 (zpure (.iload 4) 53 0 [] ls st h)) ∧
  (∀ (ls : zL) (st : zS) (h : zH), zx 95 53 ls st h = zgo 95 (zpure (.iload 6) 55 0 [] ls st h)) ∧
  (∀ (ls : zL) (st : zS) (h : zH), zx 95 55 ls st h = zca 95 55 58 ls 10 3 3 (ztake 3 st) h) ∧
  (∀ (ls : zL) (st : zS) (h : zH), zx 95 58 ls st h = zgo 95 (zpure (.ifCond .eq 41) 61 99 [] ls st h)) ∧
  (∀ (ls : zL) (st : zS) (h : zH), zx 95 61 ls st h = zgo 95 (zpure (.iload 5) 63 0 [] ls st h)) ∧
  (∀ (ls : zL) (st : zS) (h : zH), zx 95 63 ls st h = zgo 95 (zpure (.aload_n 0) 64 0 [] ls st h)) ∧
  (∀ (ls : zL) (st : zS) (h : zH), zx 95 64 ls st h = zgo 95 (zpure (.getfield 32) 67 0 [5, 4] ls st h)) ∧
  (∀ (ls : zL) (st : zS) (h : zH), zx 95 67 ls st h = zgo 95 (zpure (.iload 6) 69 0 [] ls st h)) ∧
  (∀ (ls : zL) (st : zS) (h : zH), zx 95 69 ls st h = zca 95 69 72 ls 12 2 3 (ztake 2 st) h) ∧
  (∀ (ls : zL) (st : zS) (h : zH), zx 95 72 ls st h = zgo 95 (zpure .iadd 73 0 [] ls st h)) ∧
  (∀ (ls : zL) (st : zS) (h : zH), zx 95 73 ls st h = zgo 95 (zpure (.istore 7) 75 0 [] ls st h)) ∧
  (∀ (ls : zL) (st : zS) (h : zH), zx 95 75 ls st h = zgo 95 (zpure (.aload_n 0) 76 0 [] ls st h)) ∧
  (∀ (ls : zL) (st : zS) (h : zH), zx 95 76 ls st h = zgo 95 (zpure (.getfield 22) 79 0 [5, 2] ls st h)) ∧
  (∀ (ls : zL) (st : zS) (h : zH), zx 95 79 ls st h = zgo 95 (zpure (.aload_n 0) 80 0 [] ls st h)) ∧
  (∀ (ls : zL) (st : zS) (h : zH), zx 95 80 ls st h = zgo 95 (zpure (.getfield 32) 83 0 [5, 4] ls st h)) ∧
  (∀ (ls : zL) (st : zS) (h : zH), zx 95 83 ls st h = zgo 95 (zpure (.iload 6) 85 0 [] ls st h)) ∧
  (∀ (ls : zL) (st : zS) (h : zH), zx 95 85 ls st h = zca 95 85 88 ls 11 2 3 (ztake 2 st) h) ∧
  (∀ (ls : zL) (st : zS) (h : zH), zx 95 88 ls st h = zgo 95 (zpure (.iload 5) 90 0 [] ls st h)) ∧
  (∀ (ls : zL) (st : zS) (h : zH), zx 95 90 ls st h = zgo 95 (zpure (.iload 7) 92 0 [] ls st h)) ∧
  (∀ (ls : zL) (st : zS) (h : zH), zx 95 92 ls st h = zca 95 92 95 ls 30 4 5 (ztake 4 st) h) ∧
  (∀ (ls : zL) (st : zS) (h : zH), zx 95 95 ls st h = zgo 95 (zpure (.iload 7) 97 0 [] ls st h)) ∧
  (∀ (ls : zL) (st : zS) (h : zH), zx 95 97 ls st h = zgo 95 (zpure (.istore 5) 99 0 [] ls st h)) ∧
  (∀ (ls : zL) (st : zS) (h : zH), zx 95 99 ls st h = zgo 95 (zpure (.iinc 6 1) 102 0 [] ls st h)) ∧
  (∀ (ls : zL) (st : zS) (h : zH), zx 95 102 ls st h = zgo 95 (zpure (.goto (-67)) 105 35 [] ls st h)) ∧
  (∀ (ls : zL) (st : zS) (h : zH), zx 95 105 ls st h = zret 8 st h) :=
  ⟨zx_0 rfl, zx_0 rfl, zx_0 rfl, zx_0 rfl, zx_0 rfl, zx_0 rfl, zx_2c rfl, zx_0 rfl, zx_0 rfl, zx_0 rfl, zx_0 rfl, zx_0 rfl, zx_0 rfl, zx_0 rfl, zx_0 rfl, zx_2c rfl, zx_1 rfl, zx_0 rfl, zx_0 rfl, zx_0 rfl, zx_0 rfl, zx_0 rfl, zx_0 rfl, zx_0 rfl, zx_0 rfl, zx_0 rfl, zx_0 rfl, zx_0 rfl, zx_0 rfl, zx_2c rfl, zx_0 rfl, zx_0 rfl, zx_0 rfl, zx_0 rfl, zx_0 rfl, zx_2c rfl, zx_0 rfl, zx_0 rfl, zx_0 rfl, zx_0 rfl, zx_0 rfl, zx_0 rfl, zx_0 rfl, zx_2c rfl, zx_0 rfl, zx_0 rfl, zx_2c rfl, zx_0 rfl, zx_0 rfl, zx_0 rfl, zx_0 rfl, zx_1 rfl⟩
theorem z96_14 : ∀ (ls : zL) (st : zS) (h : zH), zx 96 14 ls st h = zgo 96 (zpure (.iload_n 2) 15 0 [] ls st h) := zx_0 rfl
/-- X5_levelAhead -/
theorem z96 :
  (∀ (ls : zL) (st : zS) (h : zH), zx 96 0 ls st h = zgo 96 (zpure (.iload_n 1) 1 0 [] ls st h)) ∧
  (∀ (ls : zL) (st : zS) (h : zH), zx 96 1 ls st h = zgo 96 (zpure (.aload_n 0) 2 0 [] ls st h)) ∧
  (∀ (ls : zL) (st : zS) (h : zH), zx 96 2 ls st h = zgo 96 (zpure (.getfield 16) 5 0 [5, 1] ls st h)) ∧
  (∀ (ls : zL) (st : zS) (h : zH), zx 96 5 ls st h = zca 96 5 8 ls 175 1 8 (ztake 1 st) h) ∧
  (∀ (ls : zL) (st : zS) (h : zH), zx 96 8 ls st h = zgo 96 (zpure (.invokestatic 376) 11 0 [2] ls st h)) ∧
  (∀ (ls : zL) (st : zS) (h : zH), zx 96 11 ls st h = zgo 96 (zpure (.iconst 1) 12 0 [] ls st h)) ∧
  (∀ (ls : zL) (st : zS) (h : zH), zx 96 12 ls st h = zgo 96 (zpure .isub 13 0 [] ls st h)) ∧
  (∀ (ls : zL) (st : zS) (h : zH), zx 96 13 ls st h = zgo 96 (zpure (.istore_n 2) 14 0 [] ls st h)) ∧
  (∀ (ls : zL) (st : zS) (h : zH), zx 96 15 ls st h = zgo 96 (zpure (.ifCond .lt 36) 18 51 [] ls st h)) ∧
  (∀ (ls : zL) (st : zS) (h : zH), zx 96 18 ls st h = zgo 96 (zpure (.aload_n 0) 19 0 [] ls st h)) ∧
  (∀ (ls : zL) (st : zS) (h : zH), zx 96 19 ls st h = zgo 96 (zpure (.getfield 16) 22 0 [5, 1] ls st h)) ∧
  (∀ (ls : zL) (st : zS) (h : zH), zx 96 22 ls st h = zgo 96 (zpure (.iload_n 2) 23 0 [] ls st h)) ∧
  (∀ (ls : zL) (st : zS) (h : zH), zx 96 23 ls st h = zca 96 23 26 ls 171 2 8 (ztake 2 st) h) ∧
  (∀ (ls : zL) (st : zS) (h : zH), zx 96 26 ls st h = zgo 96 (zpure (.checkcast 106) 29 0 [1] ls st h)) ∧
  (∀ (ls : zL) (st : zS) (h : zH), zx 96 29 ls st h = zgo 96 (zpure (.astore_n 3) 30 0 [] ls st h)) ∧
  (∀ (ls : zL) (st : zS) (h : zH), zx 96 30 ls st h = zgo 96 (zpure (.aload_n 3) 31 0 [] ls st h)) ∧
  (∀ (ls : zL) (st : zS) (h : zH), zx 96 31 ls st h = zca 96 31 34 ls 6 1 2 (ztake 1 st) h) ∧
  (∀ (ls : zL) (st : zS) (h : zH), zx 96 34 ls st h = zgo 96 (zpure (.ifCond .eq 11) 37 45 [] ls st h)) ∧
  (∀ (ls : zL) (st : zS) (h : zH), zx 96 37 ls st h = zgo 96 (zpure (.aload_n 3) 38 0 [] ls st h)) ∧
  (∀ (ls : zL) (st : zS) (h : zH), zx 96 38 ls st h = zgo 96 (zpure (.getfield 153) 41 0 [1, 0] ls st h)) ∧
  (∀ (ls : zL) (st : zS) (h : zH), zx 96 41 ls st h = zgo 96 (zpure (.getfield 379) 44 0 [0, 3] ls st h)) ∧
  (∀ (ls : zL) (st : zS) (h : zH), zx 96 44 ls st h = zret 0 st h) ∧
  (∀ (ls : zL) (st : zS) (h : zH), zx 96 45 ls st h = zgo 96 (zpure (.iinc 2 (-1)) 48 0 [] ls st h)) ∧
  (∀ (ls : zL) (st : zS) (h : zH), zx 96 48 ls st h = zgo 96 (zpure (.goto (-34)) 51 14 [] ls st h)) ∧
  (∀ (ls : zL) (st : zS) (h : zH), zx 96 51 ls st h = zgo 96 (zpure (.bipush (-23)) 53 0 [] ls st h)) ∧
  (∀ (ls : zL) (st : zS) (h : zH), zx 96 53 ls st h = zret 0 st h) :=
  ⟨zx_0 rfl, zx_0 rfl, zx_0 rfl, zx_2c rfl, zx_0 rfl, zx_0 rfl, zx_0 rfl, zx_0 rfl, zx_0 rfl, zx_0 rfl, zx_0 rfl, zx_0 rfl, zx_2c rfl, zx_0 rfl, zx_0 rfl, zx_0 rfl, zx_2c rfl, zx_0 rfl, zx_0 rfl, zx_0 rfl, zx_0 rfl, zx_1 rfl, zx_0 rfl, zx_0 rfl, zx_0 rfl, zx_1 rfl⟩
theorem z97_10 : ∀ (ls : zL) (st : zS) (h : zH), zx 97 10 ls st h = zgo 97 (zpure (.iload_n 2) 11 0 [] ls st h) := zx_0 rfl
/-- X5_cutAt -/
theorem z97 :
  (∀ (ls : zL) (st : zS) (h : zH), zx 97 0 ls st h = zgo 97 (zpure (.aload_n 0) 1 0 [] ls st h)) ∧
  (∀ (ls : zL) (st : zS) (h : zH), zx 97 1 ls st h = zgo 97 (zpure (.getfield 22) 4 0 [5, 2] ls st h)) ∧
  (∀ (ls : zL) (st : zS) (h : zH), zx 97 4 ls st h = zgo 97 (zpure (.iload_n 1) 5 0 [] ls st h)) ∧
  (∀ (ls : zL) (st : zS) (h : zH), zx 97 5 ls st h = zca 97 5 8 ls 31 2 5 (ztake 2 st) h) ∧
  (∀ (ls : zL) (st : zS) (h : zH), zx 97 8 ls st h = zgo 97 (zpure (.iconst 0) 9 0 [] ls st h)) ∧
  (∀ (ls : zL) (st : zS) (h : zH), zx 97 9 ls st h = zgo 97 (zpure (.istore_n 2) 10 0 [] ls st h)) ∧
  (∀ (ls : zL) (st : zS) (h : zH), zx 97 11 ls st h = zgo 97 (zpure (.aload_n 0) 12 0 [] ls st h)) ∧
  (∀ (ls : zL) (st : zS) (h : zH), zx 97 12 ls st h = zgo 97 (zpure (.getfield 16) 15 0 [5, 1] ls st h)) ∧
  (∀ (ls : zL) (st : zS) (h : zH), zx 97 15 ls st h = zca 97 15 18 ls 175 1 8 (ztake 1 st) h) ∧
  (∀ (ls : zL) (st : zS) (h : zH), zx 97 18 ls st h = zgo 97 (zpure (.if_icmp .ge 24) 21 42 [] ls st h)) ∧
  (∀ (ls : zL) (st : zS) (h : zH), zx 97 21 ls st h = zgo 97 (zpure (.aload_n 0) 22 0 [] ls st h)) ∧
  (∀ (ls : zL) (st : zS) (h : zH), zx 97 22 ls st h = zgo 97 (zpure (.getfield 16) 25 0 [5, 1] ls st h)) ∧
  (∀ (ls : zL) (st : zS) (h : zH), zx 97 25 ls st h = zgo 97 (zpure (.iload_n 2) 26 0 [] ls st h)) ∧
  (∀ (ls : zL) (st : zS) (h : zH), zx 97 26 ls st h = zca 97 26 29 ls 171 2 8 (ztake 2 st) h) ∧
  (∀ (ls : zL) (st : zS) (h : zH), zx 97 29 ls st h = zgo 97 (zpure (.checkcast 106) 32 0 [1] ls st h)) ∧
  (∀ (ls : zL) (st : zS) (h : zH), zx 97 32 ls st h = zgo 97 (zpure (.iload_n 1) 33 0 [] ls st h)) ∧
  (∀ (ls : zL) (st : zS) (h : zH), zx 97 33 ls st h = zca 97 33 36 ls 5 2 2 (ztake 2 st) h) ∧
  (∀ (ls : zL) (st : zS) (h : zH), zx 97 36 ls st h = zgo 97 (zpure (.iinc 2 1) 39 0 [] ls st h)) ∧
  (∀ (ls : zL) (st : zS) (h : zH), zx 97 39 ls st h = zgo 97 (zpure (.goto (-29)) 42 10 [] ls st h)) ∧
  (∀ (ls : zL) (st : zS) (h : zH), zx 97 42 ls st h = zret 8 st h) :=
  ⟨zx_0 rfl, zx_0 rfl, zx_0 rfl, zx_2c rfl, zx_0 rfl, zx_0 rfl, zx_0 rfl, zx_0 rfl, zx_2c rfl, zx_0 rfl, zx_0 rfl, zx_0 rfl, zx_0 rfl, zx_2c rfl, zx_0 rfl, zx_0 rfl, zx_2c rfl, zx_0 rfl, zx_0 rfl, zx_1 rfl⟩
theorem z98_2 : ∀ (ls : zL) (st : zS) (h : zH), zx 98 2 ls st h = zgo 98 (zpure (.iload_n 1) 3 0 [] ls st h) := zx_0 rfl
/-- X5_countSecondsAired -/
theorem z98 :
  (∀ (ls : zL) (st : zS) (h : zH), zx 98 0 ls st h = zgo 98 (zpure (.iconst 0) 1 0 [] ls st h)) ∧
  (∀ (ls : zL) (st : zS) (h : zH), zx 98 1 ls st h = zgo 98 (zpure (.istore_n 1) 2 0 [] ls st h)) ∧
  (∀ (ls : zL) (st : zS) (h : zH), zx 98 3 ls st h = zgo 98 (zpure (.aload_n 0) 4 0 [] ls st h)) ∧
  (∀ (ls : zL) (st : zS) (h : zH), zx 98 4 ls st h = zgo 98 (zpure (.getfield 26) 7 0 [5, 3] ls st h)) ∧
  (∀ (ls : zL) (st : zS) (h : zH), zx 98 7 ls st h = zgo 98 (zpure (.getfield 185) 10 0 [4, 3] ls st h)) ∧
  (∀ (ls : zL) (st : zS) (h : zH), zx 98 10 ls st h = zgo 98 (zpure (.if_icmp .ge 61) 13 71 [] ls st h)) ∧
  (∀ (ls : zL) (st : zS) (h : zH), zx 98 13 ls st h = zgo 98 (zpure (.aload_n 0) 14 0 [] ls st h)) ∧
  (∀ (ls : zL) (st : zS) (h : zH), zx 98 14 ls st h = zgo 98 (zpure (.getfield 26) 17 0 [5, 3] ls st h)) ∧
  (∀ (ls : zL) (st : zS) (h : zH), zx 98 17 ls st h = zgo 98 (zpure (.iload_n 1) 18 0 [] ls st h)) ∧
  (∀ (ls : zL) (st : zS) (h : zH), zx 98 18 ls st h = zca 98 18 21 ls 34 2 5 (ztake 2 st) h) ∧
  (∀ (ls : zL) (st : zS) (h : zH), zx 98 21 ls st h = zgo 98 (zpure (.istore_n 2) 22 0 [] ls st h)) ∧
  (∀ (ls : zL) (st : zS) (h : zH), zx 98 22 ls st h = zgo 98 (zpure (.iload_n 2) 23 0 [] ls st h)) ∧
  (∀ (ls : zL) (st : zS) (h : zH), zx 98 23 ls st h = zgo 98 (zpure (.ifCond .lt 42) 26 65 [] ls st h)) ∧
  (∀ (ls : zL) (st : zS) (h : zH), zx 98 26 ls st h = zgo 98 (zpure (.iload_n 2) 27 0 [] ls st h)) ∧
  (∀ (ls : zL) (st : zS) (h : zH), zx 98 27 ls st h = zgo 98 (zpure (.aload_n 0) 28 0 [] ls st h)) ∧
  (∀ (ls : zL) (st : zS) (h : zH), zx 98 28 ls st h = zgo 98 (zpure (.getfield 12) 31 0 [5, 0] ls st h)) ∧
  (∀ (ls : zL) (st : zS) (h : zH), zx 98 31 ls st h = zca 98 31 34 ls 175 1 8 (ztake 1 st) h) ∧
  (∀ (ls : zL) (st : zS) (h : zH), zx 98 34 ls st h = zgo 98 (zpure (.if_icmp .ge 31) 37 65 [] ls st h)) ∧
  (∀ (ls : zL) (st : zS) (h : zH), zx 98 37 ls st h = zgo 98 (zpure (.aload_n 0) 38 0 [] ls st h)) ∧
  (∀ (ls : zL) (st : zS) (h : zH), zx 98 38 ls st h = zgo 98 (zpure (.getfield 12) 41 0 [5, 0] ls st h)) ∧
  (∀ (ls : zL) (st : zS) (h : zH), zx 98 41 ls st h = zgo 98 (zpure (.iload_n 2) 42 0 [] ls st h)) ∧
  (∀ (ls : zL) (st : zS) (h : zH), zx 98 42 ls st h = zca 98 42 45 ls 171 2 8 (ztake 2 st) h) ∧
  (∀ (ls : zL) (st : zS) (h : zH), zx 98 45 ls st h = zgo 98 (zpure (.checkcast 65) 48 0 [0] ls st h)) ∧
  (∀ (ls : zL) (st : zS) (h : zH), zx 98 48 ls st h = zgo 98 (zpure .dup 49 0 [] ls st h)) ∧
  (∀ (ls : zL) (st : zS) (h : zH), zx 98 49 ls st h = zgo 98 (zpure (.getfield 292) 52 0 [0, 7] ls st h)) ∧
  (∀ (ls : zL) (st : zS) (h : zH), zx 98 52 ls st h = zgo 98 (zpure (.aload_n 0) 53 0 [] ls st h)) ∧
  (∀ (ls : zL) (st : zS) (h : zH), zx 98 53 ls st h = zgo 98 (zpure (.getfield 26) 56 0 [5, 3] ls st h)) ∧
  (∀ (ls : zL) (st : zS) (h : zH), zx 98 56 ls st h = zgo 98 (zpure (.iload_n 1) 57 0 [] ls st h)) ∧
  (∀ (ls : zL) (st : zS) (h : zH), zx 98 57 ls st h = zca 98 57 60 ls 37 2 5 (ztake 2 st) h) ∧
  (∀ (ls : zL) (st : zS) (h : zH), zx 98 60 ls st h = zgo 98 (zpure .i2l 61 0 [] ls st h)) ∧
  (∀ (ls : zL) (st : zS) (h : zH), zx 98 61 ls st h = zgo 98 (zpure .ladd 62 0 [] ls st h)) ∧
  (∀ (ls : zL) (st : zS) (h : zH), zx 98 62 ls st h = zgo 98 (zpure (.putfield 292) 65 0 [0, 7, 4] ls st h)) ∧
  (∀ (ls : zL) (st : zS) (h : zH), zx 98 65 ls st h = zgo 98 (zpure (.iinc 1 1) 68 0 [] ls st h)) ∧
  (∀ (ls : zL) (st : zS) (h : zH), zx 98 68 ls st h = zgo 98 (zpure (.goto (-66)) 71 2 [] ls st h)) ∧
  (∀ (ls : zL) (st : zS) (h : zH), zx 98 71 ls st h = zret 8 st h) :=
  ⟨zx_0 rfl, zx_0 rfl, zx_0 rfl, zx_0 rfl, zx_0 rfl, zx_0 rfl, zx_0 rfl, zx_0 rfl, zx_0 rfl, zx_2c rfl, zx_0 rfl, zx_0 rfl, zx_0 rfl, zx_0 rfl, zx_0 rfl, zx_0 rfl, zx_2c rfl, zx_0 rfl, zx_0 rfl, zx_0 rfl, zx_0 rfl, zx_2c rfl, zx_0 rfl, zx_0 rfl, zx_0 rfl, zx_0 rfl, zx_0 rfl, zx_0 rfl, zx_2c rfl, zx_0 rfl, zx_0 rfl, zx_0 rfl, zx_0 rfl, zx_0 rfl, zx_1 rfl⟩
theorem z99_2 : ∀ (ls : zL) (st : zS) (h : zH), zx 99 2 ls st h = zgo 99 (zpure (.iload_n 1) 3 0 [] ls st h) := zx_0 rfl
/-- X5_endEvents -/
theorem z99 :
  (∀ (ls : zL) (st : zS) (h : zH), zx 99 0 ls st h = zgo 99 (zpure (.iconst 0) 1 0 [] ls st h)) ∧
  (∀ (ls : zL) (st : zS) (h : zH), zx 99 1 ls st h = zgo 99 (zpure (.istore_n 1) 2 0 [] ls st h)) ∧
  (∀ (ls : zL) (st : zS) (h : zH), zx 99 3 ls st h = zgo 99 (zpure (.aload_n 0) 4 0 [] ls st h)) ∧
  (∀ (ls : zL) (st : zS) (h : zH), zx 99 4 ls st h = zgo 99 (zpure (.getfield 16) 7 0 [5, 1] ls st h)) ∧
  (∀ (ls : zL) (st : zS) (h : zH), zx 99 7 ls st h = zca 99 7 10 ls 175 1 8 (ztake 1 st) h) ∧
  (∀ (ls : zL) (st : zS) (h : zH), zx 99 10 ls st h = zgo 99 (zpure (.if_icmp .ge 46) 13 56 [] ls st h)) ∧
  (∀ (ls : zL) (st : zS) (h : zH), zx 99 13 ls st h = zgo 99 (zpure (.aload_n 0) 14 0 [] ls st h)) ∧
  (∀ (ls : zL) (st : zS) (h : zH), zx 99 14 ls st h = zgo 99 (zpure (.getfield 16) 17 0 [5, 1] ls st h)) ∧
  (∀ (ls : zL) (st : zS) (h : zH), zx 99 17 ls st h = zgo 99 (zpure (.iload_n 1) 18 0 [] ls st h)) ∧
  (∀ (ls : zL) (st : zS) (h : zH), zx 99 18 ls st h = zca 99 18 21 ls 171 2 8 (ztake 2 st) h) ∧
  (∀ (ls : zL) (st : zS) (h : zH), zx 99 21 ls st h = zgo 99 (zpure (.checkcast 106) 24 0 [1] ls st h)) ∧
  (∀ (ls : zL) (st : zS) (h : zH), zx 99 24 ls st h = zgo 99 (zpure (.astore_n 2) 25 0 [] ls st h)) ∧
  (∀ (ls : zL) (st : zS) (h : zH), zx 99 25 ls st h = zgo 99 (zpure (.aload_n 2) 26 0 [] ls st h)) ∧
  (∀ (ls : zL) (st : zS) (h : zH), zx 99 26 ls st h = zgo 99 (zpure (.getfield 163) 29 0 [1, 5] ls st h)) ∧
  (∀ (ls : zL) (st : zS) (h : zH), zx 99 29 ls st h = zgo 99 (zpure (.ifCond .ne 16) 32 45 [] ls st h)) ∧
  (∀ (ls : zL) (st : zS) (h : zH), zx 99 32 ls st h = zgo 99 (zpure (.aload_n 2) 33 0 [] ls st h)) ∧
  (∀ (ls : zL) (st : zS) (h : zH), zx 99 33 ls st h = zgo 99 (zpure (.getfield 153) 36 0 [1, 0] ls st h)) ∧
  (∀ (ls : zL) (st : zS) (h : zH), zx 99 36 ls st h = zgo 99 (zpure .dup 37 0 [] ls st h)) ∧
  (∀ (ls : zL) (st : zS) (h : zH), zx 99 37 ls st h = zgo 99 (zpure (.getfield 90) 40 0 [0, 6] ls st h)) ∧
  (∀ (ls : zL) (st : zS) (h : zH), zx 99 40 ls st h = zgo 99 (zpure (.iconst 1) 41 0 [] ls st h)) ∧
  (∀ (ls : zL) (st : zS) (h : zH), zx 99 41 ls st h = zgo 99 (zpure .isub 42 0 [] ls st h)) ∧
  (∀ (ls : zL) (st : zS) (h : zH), zx 99 42 ls st h = zgo 99 (zpure (.putfield 90) 45 0 [0, 6, 0] ls st h)) ∧
  (∀ (ls : zL) (st : zS) (h : zH), zx 99 45 ls st h = zgo 99 (zpure (.aload_n 2) 46 0 [] ls st h)) ∧
  (∀ (ls : zL) (st : zS) (h : zH), zx 99 46 ls st h = zgo 99 (zpure (.iconst 0) 47 0 [] ls st h)) ∧
  (∀ (ls : zL) (st : zS) (h : zH), zx 99 47 ls st h = zgo 99 (zpure (.putfield 134) 50 0 [1, 4, 0] ls st h)) ∧
  (∀ (ls : zL) (st : zS) (h : zH), zx 99 50 ls st h = zgo 99 (zpure (.iinc 1 1) 53 0 [] ls st h)) ∧
  (∀ (ls : zL) (st : zS) (h : zH), zx 99 53 ls st h = zgo 99 (zpure (.goto (-51)) 56 2 [] ls st h)) ∧
  (∀ (ls : zL) (st : zS) (h : zH), zx 99 56 ls st h = zret 8 st h) :=
  ⟨zx_0 rfl, zx_0 rfl, zx_0 rfl, zx_0 rfl, zx_2c rfl, zx_0 rfl, zx_0 rfl, zx_0 rfl, zx_0 rfl, zx_2c rfl, zx_0 rfl, zx_0 rfl, zx_0 rfl, zx_0 rfl, zx_0 rfl, zx_0 rfl, zx_0 rfl, zx_0 rfl, zx_0 rfl, zx_0 rfl, zx_0 rfl, zx_0 rfl, zx_0 rfl, zx_0 rfl, zx_0 rfl, zx_0 rfl, zx_0 rfl, zx_1 rfl⟩
theorem z100_6 : ∀ (ls : zL) (st : zS) (h : zH), zx 100 6 ls st h = zgo 100 (zpure (.iload_n 3) 7 0 [] ls st h) := zx_0 rfl
/-- X5_meanOfSpans -/
theorem z100 :
  (∀ (ls : zL) (st : zS) (h : zH), zx 100 0 ls st h = zgo 100 (zpure (.fconst 0) 1 0 [] ls st h)) ∧
  (∀ (ls : zL) (st : zS) (h : zH), zx 100 1 ls st h = zgo 100 (zpure (.fstore_n 1) 2 0 [] ls st h)) ∧
  (∀ (ls : zL) (st : zS) (h : zH), zx 100 2 ls st h = zgo 100 (zpure (.iconst 0) 3 0 [] ls st h)) ∧
  (∀ (ls : zL) (st : zS) (h : zH), zx 100 3 ls st h = zgo 100 (zpure (.istore_n 2) 4 0 [] ls st h)) ∧
  (∀ (ls : zL) (st : zS) (h : zH), zx 100 4 ls st h = zgo 100 (zpure (.iconst 0) 5 0 [] ls st h)) ∧
  (∀ (ls : zL) (st : zS) (h : zH), zx 100 5 ls st h = zgo 100 (zpure (.istore_n 3) 6 0 [] ls st h)) ∧
  (∀ (ls : zL) (st : zS) (h : zH), zx 100 7 ls st h = zgo 100 (zpure (.aload_n 0) 8 0 [] ls st h)) ∧
  (∀ (ls : zL) (st : zS) (h : zH), zx 100 8 ls st h = zgo 100 (zpure (.getfield 22) 11 0 [5, 2] ls st h)) ∧
  (∀ (ls : zL) (st : zS) (h : zH), zx 100 11 ls st h = zgo 100 (zpure (.getfield 185) 14 0 [4, 3] ls st h)) ∧
  (∀ (ls : zL) (st : zS) (h : zH), zx 100 14 ls st h = zgo 100 (zpure (.if_icmp .ge 73) 17 87 [] ls st h)) ∧
  (∀ (ls : zL) (st : zS) (h : zH), zx 100 17 ls st h = zgo 100 (zpure (.aload_n 0) 18 0 [] ls st h)) ∧
  (∀ (ls : zL) (st : zS) (h : zH), zx 100 18 ls st h = zgo 100 (zpure (.getfield 22) 21 0 [5, 2] ls st h)) ∧
  (∀ (ls : zL) (st : zS) (h : zH), zx 100 21 ls st h = zgo 100 (zpure (.iload_n 3) 22 0 [] ls st h)) ∧
  (∀ (ls : zL) (st : zS) (h : zH), zx 100 22 ls st h = zca 100 22 25 ls 34 2 5 (ztake 2 st) h) ∧
  (∀ (ls : zL) (st : zS) (h : zH), zx 100 25 ls st h = zgo 100 (zpure (.istore 4) 27 0 [] ls st h)) ∧
  (∀ (ls : zL) (st : zS) (h : zH), zx 100 27 ls st h = zgo 100 (zpure (.iload 4) 29 0 [] ls st h)) ∧
  (∀ (ls : zL) (st : zS) (h : zH), zx 100 29 ls st h = zgo 100 (zpure (.ifCond .lt 52) 32 81 [] ls st h)) ∧
  (∀ (ls : zL) (st : zS) (h : zH), zx 100 32 ls st h = zgo 100 (zpure (.iload 4) 34 0 [] ls st h)) ∧
  (∀ (ls : zL) (st : zS) (h : zH), zx 100 34 ls st h = zgo 100 (zpure (.aload_n 0) 35 0 [] ls st h)) ∧
  (∀ (ls : zL) (st : zS) (h : zH), zx 100 35 ls st h = zgo 100 (zpure (.getfield 12) 38 0 [5, 0] ls st h)) ∧
  (∀ (ls : zL) (st : zS) (h : zH), zx 100 38 ls st h = zca 100 38 41 ls 175 1 8 (ztake 1 st) h) ∧
  (∀ (ls : zL) (st : zS) (h : zH), zx 100 41 ls st h = zgo 100 (zpure (.if_icmp .ge 40) 44 81 [] ls st h)) ∧
  (∀ (ls : zL) (st : zS) (h : zH), zx 100 44 ls st h = zgo 100 (zpure (.aload_n 0) 45 0 [] ls st h)) ∧
  (∀ (ls : zL) (st : zS) (h : zH), zx 100 45 ls st h = zgo 100 (zpure (.getfield 22) 48 0 [5, 2] ls st h)) ∧
  (∀ (ls : zL) (st : zS) (h : zH), zx 100 48 ls st h = zgo 100 (zpure (.iload_n 3) 49 0 [] ls st h)) ∧
  (∀ (ls : zL) (st : zS) (h : zH), zx 100 49 ls st h = zca 100 49 52 ls 37 2 5 (ztake 2 st) h) ∧
  (∀ (ls : zL) (st : zS) (h : zH), zx 100 52 ls st h = zgo 100 (zpure (.istore 5) 54 0 [] ls st h)) ∧
  (∀ (ls : zL) (st : zS) (h : zH), zx 100 54 ls st h = zgo 100 (zpure (.fload_n 1) 55 0 [] ls st h)) ∧
  (∀ (ls : zL) (st : zS) (h : zH), zx 100 55 ls st h = zgo 100 (zpure (.aload_n 0) 56 0 [] ls st h)) ∧
  (∀ (ls : zL) (st : zS) (h : zH), zx 100 56 ls st h = zgo 100 (zpure (.getfield 12) 59 0 [5, 0] ls st h)) ∧
  (∀ (ls : zL) (st : zS) (h : zH), zx 100 59 ls st h = zgo 100 (zpure (.iload 4) 61 0 [] ls st h)) ∧
  (∀ (ls : zL) (st : zS) (h : zH), zx 100 61 ls st h = zca 100 61 64 ls 171 2 8 (ztake 2 st) h) ∧
  (∀ (ls : zL) (st : zS) (h : zH), zx 100 64 ls st h = zgo 100 (zpure (.checkcast 65) 67 0 [0] ls st h)) ∧
  (∀ (ls : zL) (st : zS) (h : zH), zx 100 67 ls st h = zgo 100 (zpure (.getfield 379) 70 0 [0, 3] ls st h)) ∧
  (∀ (ls : zL) (st : zS) (h : zH), zx 100 70 ls st h = zgo 100 (zpure (.iload 5) 72 0 [] ls st h)) ∧
  (∀ (ls : zL) (st : zS) (h : zH), zx 100 72 ls st h = zgo 100 (zpure .imul 73 0 [] ls st h)) ∧
  (∀ (ls : zL) (st : zS) (h : zH), zx 100 73 ls st h = zgo 100 (zpure .i2f 74 0 [] ls st h)) ∧
  (∀ (ls : zL) (st : zS) (h : zH), zx 100 74 ls st h = zgo 100 (zpure .fadd 75 0 [] ls st h)) ∧
  (∀ (ls : zL) (st : zS) (h : zH), zx 100 75 ls st h = zgo 100 (zpure (.fstore_n 1) 76 0 [] ls st h)) ∧
  (∀ (ls : zL) (st : zS) (h : zH), zx 100 76 ls st h = zgo 100 (zpure (.iload_n 2) 77 0 [] ls st h)) ∧
  (∀ (ls : zL) (st : zS) (h : zH), zx 100 77 ls st h = zgo 100 (zpure (.iload 5) 79 0 [] ls st h)) ∧
  (∀ (ls : zL) (st : zS) (h : zH), zx 100 79 ls st h = zgo 100 (zpure .iadd 80 0 [] ls st h)) ∧
  (∀ (ls : zL) (st : zS) (h : zH), zx 100 80 ls st h = zgo 100 (zpure (.istore_n 2) 81 0 [] ls st h)) ∧
  (∀ (ls : zL) (st : zS) (h : zH), zx 100 81 ls st h = zgo 100 (zpure (.iinc 3 1) 84 0 [] ls st h)) ∧
  (∀ (ls : zL) (st : zS) (h : zH), zx 100 84 ls st h = zgo 100 (zpure (.goto (-78)) 87 6 [] ls st h)) ∧
  (∀ (ls : zL) (st : zS) (h : zH), zx 100 87 ls st h = zgo 100 (zpure (.iload_n 2) 88 0 [] ls st h)) ∧
  (∀ (ls : zL) (st : zS) (h : zH), zx 100 88 ls st h = zgo 100 (zpure (.iconst 1) 89 0 [] ls st h)) ∧
  (∀ (ls : zL) (st : zS) (h : zH), zx 100 89 ls st h = zgo 100 (zpure (.if_icmp .ge 14) 92 103 [] ls st h)) ∧
  (∀ (ls : zL) (st : zS) (h : zH), zx 100 92 ls st h = (if st.length ≤ 4 then some (.inr 4, zchg h 1 6) else none)) ∧
  (∀ (ls : zL) (st : zS) (h : zH), zx 100 103 ls st h = zgo 100 (zpure (.fload_n 1) 104 0 [] ls st h)) ∧
  (∀ (ls : zL) (st : zS) (h : zH), zx 100 104 ls st h = zgo 100 (zpure (.iload_n 2) 105 0 [] ls st h)) ∧
  (∀ (ls : zL) (st : zS) (h : zH), zx 100 105 ls st h = zgo 100 (zpure .i2f 106 0 [] ls st h)) ∧
  (∀ (ls : zL) (st : zS) (h : zH), zx 100 106 ls st h = zgo 100 (zpure .fdiv 107 0 [] ls st h)) ∧
  (∀ (ls : zL) (st : zS) (h : zH), zx 100 107 ls st h = zret 5 st h) :=
  ⟨zx_0 rfl, zx_0 rfl, zx_0 rfl, zx_0 rfl, zx_0 rfl, zx_0 rfl, zx_0 rfl, zx_0 rfl, zx_0 rfl, zx_0 rfl, zx_0 rfl, zx_0 rfl, zx_0 rfl, zx_2c rfl, zx_0 rfl, zx_0 rfl, zx_0 rfl, zx_0 rfl, zx_0 rfl, zx_0 rfl, zx_2c rfl, zx_0 rfl, zx_0 rfl, zx_0 rfl, zx_0 rfl, zx_2c rfl, zx_0 rfl, zx_0 rfl, zx_0 rfl, zx_0 rfl, zx_0 rfl, zx_2c rfl, zx_0 rfl, zx_0 rfl, zx_0 rfl, zx_0 rfl, zx_0 rfl, zx_0 rfl, zx_0 rfl, zx_0 rfl, zx_0 rfl, zx_0 rfl, zx_0 rfl, zx_0 rfl, zx_0 rfl, zx_0 rfl, zx_0 rfl, zx_0 rfl, zx_3c rfl rfl, zx_0 rfl, zx_0 rfl, zx_0 rfl, zx_0 rfl, zx_1 rfl⟩
theorem z101_26 : ∀ (ls : zL) (st : zS) (h : zH), zx 101 26 ls st h = zgo 101 (zpure (.iload_n 3) 27 0 [] ls st h) := zx_0 rfl
theorem z101_53 : ∀ (ls : zL) (st : zS) (h : zH), zx 101 53 ls st h = zgo 101 (zpure (.iload_n 3) 54 0 [] ls st h) := zx_0 rfl
/-- X5_bitsOf -/
theorem z101 :
  (∀ (ls : zL) (st : zS) (h : zH), zx 101 0 ls st h = zgo 101 (zpure (.fload_n 0) 1 0 [] ls st h)) ∧
  (∀ (ls : zL) (st : zS) (h : zH), zx 101 1 ls st h = zgo 101 (zpure (.fconst 0) 2 0 [] ls st h)) ∧
  (∀ (ls : zL) (st : zS) (h : zH), zx 101 2 ls st h = zgo 101 (zpure (.fcmp .l) 3 0 [] ls st h)) ∧
  (∀ (ls : zL) (st : zS) (h : zH), zx 101 3 ls st h = zgo 101 (zpure (.ifCond .ne 5) 6 8 [] ls st h)) ∧
  (∀ (ls : zL) (st : zS) (h : zH), zx 101 6 ls st h = zgo 101 (zpure (.iconst 0) 7 0 [] ls st h)) ∧
  (∀ (ls : zL) (st : zS) (h : zH), zx 101 7 ls st h = zret 0 st h) ∧
  (∀ (ls : zL) (st : zS) (h : zH), zx 101 8 ls st h = zgo 101 (zpure (.fload_n 0) 9 0 [] ls st h)) ∧
  (∀ (ls : zL) (st : zS) (h : zH), zx 101 9 ls st h = zgo 101 (zpure (.fconst 0) 10 0 [] ls st h)) ∧
  (∀ (ls : zL) (st : zS) (h : zH), zx 101 10 ls st h = zgo 101 (zpure (.fcmp .g) 11 0 [] ls st h)) ∧
  (∀ (ls : zL) (st : zS) (h : zH), zx 101 11 ls st h = zgo 101 (zpure (.ifCond .ge 8) 14 19 [] ls st h)) ∧
  (∀ (ls : zL) (st : zS) (h : zH), zx 101 14 ls st h = zgo 101 (zpure (.fload_n 0) 15 0 [] ls st h)) ∧
  (∀ (ls : zL) (st : zS) (h : zH), zx 101 15 ls st h = zgo 101 (zpure .fneg 16 0 [] ls st h)) ∧
  (∀ (ls : zL) (st : zS) (h : zH), zx 101 16 ls st h = zgo 101 (zpure (.goto 4) 19 20 [] ls st h)) ∧
  (∀ (ls : zL) (st : zS) (h : zH), zx 101 19 ls st h = zgo 101 (zpure (.fload_n 0) 20 0 [] ls st h)) ∧
  (∀ (ls : zL) (st : zS) (h : zH), zx 101 20 ls st h = zgo 101 (zpure (.fstore_n 1) 21 0 [] ls st h)) ∧
  (∀ (ls : zL) (st : zS) (h : zH), zx 101 21 ls st h = zgo 101 (zpure (.bipush 127) 23 0 [] ls st h)) ∧
  (∀ (ls : zL) (st : zS) (h : zH), zx 101 23 ls st h = zgo 101 (zpure (.istore_n 2) 24 0 [] ls st h)) ∧
  (∀ (ls : zL) (st : zS) (h : zH), zx 101 24 ls st h = zgo 101 (zpure (.iconst 0) 25 0 [] ls st h)) ∧
  (∀ (ls : zL) (st : zS) (h : zH), zx 101 25 ls st h = zgo 101 (zpure (.istore_n 3) 26 0 [] ls st h)) ∧
  (∀ (ls : zL) (st : zS) (h : zH), zx 101 27 ls st h = zgo 101 (zpure (.bipush 127) 29 0 [] ls st h)) ∧
  (∀ (ls : zL) (st : zS) (h : zH), zx 101 29 ls st h = zgo 101 (zpure (.if_icmp .ge 22) 32 51 [] ls st h)) ∧
  (∀ (ls : zL) (st : zS) (h : zH), zx 101 32 ls st h = zgo 101 (zpure (.fload_n 1) 33 0 [] ls st h)) ∧
  (∀ (ls : zL) (st : zS) (h : zH), zx 101 33 ls st h = zgo 101 (zpure (.fconst 2) 34 0 [] ls st h)) ∧
  (∀ (ls : zL) (st : zS) (h : zH), zx 101 34 ls st h = zgo 101 (zpure (.fcmp .l) 35 0 [] ls st h)) ∧
  (∀ (ls : zL) (st : zS) (h : zH), zx 101 35 ls st h = zgo 101 (zpure (.ifCond .lt 16) 38 51 [] ls st h)) ∧
  (∀ (ls : zL) (st : zS) (h : zH), zx 101 38 ls st h = zgo 101 (zpure (.fload_n 1) 39 0 [] ls st h)) ∧
  (∀ (ls : zL) (st : zS) (h : zH), zx 101 39 ls st h = zgo 101 (zpure (.fconst 2) 40 0 [] ls st h)) ∧
  (∀ (ls : zL) (st : zS) (h : zH), zx 101 40 ls st h = zgo 101 (zpure .fdiv 41 0 [] ls st h)) ∧
  (∀ (ls : zL) (st : zS) (h : zH), zx 101 41 ls st h = zgo 101 (zpure (.fstore_n 1) 42 0 [] ls st h)) ∧
  (∀ (ls : zL) (st : zS) (h : zH), zx 101 42 ls st h = zgo 101 (zpure (.iinc 2 1) 45 0 [] ls st h)) ∧
  (∀ (ls : zL) (st : zS) (h : zH), zx 101 45 ls st h = zgo 101 (zpure (.iinc 3 1) 48 0 [] ls st h)) ∧
  (∀ (ls : zL) (st : zS) (h : zH), zx 101 48 ls st h = zgo 101 (zpure (.goto (-22)) 51 26 [] ls st h)) ∧
  (∀ (ls : zL) (st : zS) (h : zH), zx 101 51 ls st h = zgo 101 (zpure (.iconst 0) 52 0 [] ls st h)) ∧
  (∀ (ls : zL) (st : zS) (h : zH), zx 101 52 ls st h = zgo 101 (zpure (.istore_n 3) 53 0 [] ls st h)) ∧
  (∀ (ls : zL) (st : zS) (h : zH), zx 101 54 ls st h = zgo 101 (zpure (.bipush 126) 56 0 [] ls st h)) ∧
  (∀ (ls : zL) (st : zS) (h : zH), zx 101 56 ls st h = zgo 101 (zpure (.if_icmp .ge 22) 59 78 [] ls st h)) ∧
  (∀ (ls : zL) (st : zS) (h : zH), zx 101 59 ls st h = zgo 101 (zpure (.fload_n 1) 60 0 [] ls st h)) ∧
  (∀ (ls : zL) (st : zS) (h : zH), zx 101 60 ls st h = zgo 101 (zpure (.fconst 1) 61 0 [] ls st h)) ∧
  (∀ (ls : zL) (st : zS) (h : zH), zx 101 61 ls st h = zgo 101 (zpure (.fcmp .g) 62 0 [] ls st h)) ∧
  (∀ (ls : zL) (st : zS) (h : zH), zx 101 62 ls st h = zgo 101 (zpure (.ifCond .ge 16) 65 78 [] ls st h)) ∧
  (∀ (ls : zL) (st : zS) (h : zH), zx 101 65 ls st h = zgo 101 (zpure (.fload_n 1) 66 0 [] ls st h)) ∧
  (∀ (ls : zL) (st : zS) (h : zH), zx 101 66 ls st h = zgo 101 (zpure (.fconst 2) 67 0 [] ls st h)) ∧
  (∀ (ls : zL) (st : zS) (h : zH), zx 101 67 ls st h = zgo 101 (zpure .fmul 68 0 [] ls st h)) ∧
  (∀ (ls : zL) (st : zS) (h : zH), zx 101 68 ls st h = zgo 101 (zpure (.fstore_n 1) 69 0 [] ls st h)) ∧
  (∀ (ls : zL) (st : zS) (h : zH), zx 101 69 ls st h = zgo 101 (zpure (.iinc 2 (-1)) 72 0 [] ls st h)) ∧
  (∀ (ls : zL) (st : zS) (h : zH), zx 101 72 ls st h = zgo 101 (zpure (.iinc 3 1) 75 0 [] ls st h)) ∧
  (∀ (ls : zL) (st : zS) (h : zH), zx 101 75 ls st h = zgo 101 (zpure (.goto (-22)) 78 53 [] ls st h)) ∧
  (∀ (ls : zL) (st : zS) (h : zH), zx 101 78 ls st h = zgo 101 (zpure (.fload_n 1) 79 0 [] ls st h)) ∧
  (∀ (ls : zL) (st : zS) (h : zH), zx 101 79 ls st h = zgo 101 (zpure (.fconst 1) 80 0 [] ls st h)) ∧
  (∀ (ls : zL) (st : zS) (h : zH), zx 101 80 ls st h = zgo 101 (zpure .fsub 81 0 [] ls st h)) ∧
  (∀ (ls : zL) (st : zS) (h : zH), zx 101 81 ls st h = zgo 101 (zpure (.ldc_w 386) 84 0 [1, 1258291200] ls st h)) ∧
  (∀ (ls : zL) (st : zS) (h : zH), zx 101 84 ls st h = zgo 101 (zpure .fmul 85 0 [] ls st h)) ∧
  (∀ (ls : zL) (st : zS) (h : zH), zx 101 85 ls st h = zgo 101 (zpure .f2i 86 0 [] ls st h)) ∧
  (∀ (ls : zL) (st : zS) (h : zH), zx 101 86 ls st h = zgo 101 (zpure (.istore_n 3) 87 0 [] ls st h)) ∧
  (∀ (ls : zL) (st : zS) (h : zH), zx 101 87 ls st h = zgo 101 (zpure (.fload_n 0) 88 0 [] ls st h)) ∧
  (∀ (ls : zL) (st : zS) (h : zH), zx 101 88 ls st h = zgo 101 (zpure (.fconst 0) 89 0 [] ls st h)) ∧
  (∀ (ls : zL) (st : zS) (h : zH), zx 101 89 ls st h = zgo 101 (zpure (.fcmp .g) 90 0 [] ls st h)) ∧
  (∀ (ls : zL) (st : zS) (h : zH), zx 101 90 ls st h = zgo 101 (zpure (.ifCond .ge 7) 93 97 [] ls st h)) ∧
  (∀ (ls : zL) (st : zS) (h : zH), zx 101 93 ls st h = zgo 101 (zpure (.iconst 1) 94 0 [] ls st h)) ∧
  (∀ (ls : zL) (st : zS) (h : zH), zx 101 94 ls st h = zgo 101 (zpure (.goto 4) 97 98 [] ls st h)) ∧
  (∀ (ls : zL) (st : zS) (h : zH), zx 101 97 ls st h = zgo 101 (zpure (.iconst 0) 98 0 [] ls st h)) ∧
  (∀ (ls : zL) (st : zS) (h : zH), zx 101 98 ls st h = zgo 101 (zpure (.istore 4) 100 0 [] ls st h)) ∧
  (∀ (ls : zL) (st : zS) (h : zH), zx 101 100 ls st h = zgo 101 (zpure (.iload 4) 102 0 [] ls st h)) ∧
  (∀ (ls : zL) (st : zS) (h : zH), zx 101 102 ls st h = zgo 101 (zpure (.bipush 31) 104 0 [] ls st h)) ∧
  (∀ (ls : zL) (st : zS) (h : zH), zx 101 104 ls st h = zgo 101 (zpure .ishl 105 0 [] ls st h)) ∧
  (∀ (ls : zL) (st : zS) (h : zH), zx 101 105 ls st h = zgo 101 (zpure (.iload_n 2) 106 0 [] ls st h)) ∧
  (∀ (ls : zL) (st : zS) (h : zH), zx 101 106 ls st h = zgo 101 (zpure (.bipush 23) 108 0 [] ls st h)) ∧
  (∀ (ls : zL) (st : zS) (h : zH), zx 101 108 ls st h = zgo 101 (zpure .ishl 109 0 [] ls st h)) ∧
  (∀ (ls : zL) (st : zS) (h : zH), zx 101 109 ls st h = zgo 101 (zpure .ior 110 0 [] ls st h)) ∧
  (∀ (ls : zL) (st : zS) (h : zH), zx 101 110 ls st h = zgo 101 (zpure (.iload_n 3) 111 0 [] ls st h)) ∧
  (∀ (ls : zL) (st : zS) (h : zH), zx 101 111 ls st h = zgo 101 (zpure .ior 112 0 [] ls st h)) ∧
  (∀ (ls : zL) (st : zS) (h : zH), zx 101 112 ls st h = zret 0 st h) :=
  ⟨zx_0 rfl, zx_0 rfl, zx_0 rfl, zx_0 rfl, zx_0 rfl, zx_1 rfl, zx_0 rfl, zx_0 rfl, zx_0 rfl, zx_0 rfl, zx_0 rfl, zx_0 rfl, zx_0 rfl, zx_0 rfl, zx_0 rfl, zx_0 rfl, zx_0 rfl, zx_0 rfl, zx_0 rfl, zx_0 rfl, zx_0 rfl, zx_0 rfl, zx_0 rfl, zx_0 rfl, zx_0 rfl, zx_0 rfl, zx_0 rfl, zx_0 rfl, zx_0 rfl, zx_0 rfl, zx_0 rfl, zx_0 rfl, zx_0 rfl, zx_0 rfl, zx_0 rfl, zx_0 rfl, zx_0 rfl, zx_0 rfl, zx_0 rfl, zx_0 rfl, zx_0 rfl, zx_0 rfl, zx_0 rfl, zx_0 rfl, zx_0 rfl, zx_0 rfl, zx_0 rfl, zx_0 rfl, zx_0 rfl, zx_0 rfl, zx_0 rfl, zx_0 rfl, zx_0 rfl, zx_0 rfl, zx_0 rfl, zx_0 rfl, zx_0 rfl, zx_0 rfl, zx_0 rfl, zx_0 rfl, zx_0 rfl, zx_0 rfl, zx_0 rfl, zx_0 rfl, zx_0 rfl, zx_0 rfl, zx_0 rfl, zx_0 rfl, zx_0 rfl, zx_0 rfl, zx_0 rfl, zx_1 rfl⟩
/-- X6_init -/
theorem z102 :
  (∀ (ls : zL) (st : zS) (h : zH), zx 102 0 ls st h = zgo 102 (zpure (.aload_n 0) 1 0 [] ls st h)) ∧
  (∀ (ls : zL) (st : zS) (h : zH), zx 102 1 ls st h = zgo 102 (zpure (.invokespecial 1) 4 0 [] ls st h)) ∧
  (∀ (ls : zL) (st : zS) (h : zH), zx 102 4 ls st h = zgo 102 (zpure (.aload_n 0) 5 0 [] ls st h)) ∧
  (∀ (ls : zL) (st : zS) (h : zH), zx 102 5 ls st h = zgo 102 (zpure (.bipush 12) 7 0 [] ls st h)) ∧
  (∀ (ls : zL) (st : zS) (h : zH), zx 102 7 ls st h = zgo 102 (zpure (.newarray .int) 9 0 [] ls st h)) ∧
  (∀ (ls : zL) (st : zS) (h : zH), zx 102 9 ls st h = zgo 102 (zpure (.putfield 9) 12 0 [6, 0, 7] ls st h)) ∧
  (∀ (ls : zL) (st : zS) (h : zH), zx 102 12 ls st h = zgo 102 (zpure (.aload_n 0) 13 0 [] ls st h)) ∧
  (∀ (ls : zL) (st : zS) (h : zH), zx 102 13 ls st h = zgo 102 (zpure (.bipush 12) 15 0 [] ls st h)) ∧
  (∀ (ls : zL) (st : zS) (h : zH), zx 102 15 ls st h = zgo 102 (zpure (.newarray .int) 17 0 [] ls st h)) ∧
  (∀ (ls : zL) (st : zS) (h : zH), zx 102 17 ls st h = zgo 102 (zpure (.putfield 13) 20 0 [6, 1, 7] ls st h)) ∧
  (∀ (ls : zL) (st : zS) (h : zH), zx 102 20 ls st h = zgo 102 (zpure (.aload_n 0) 21 0 [] ls st h)) ∧
  (∀ (ls : zL) (st : zS) (h : zH), zx 102 21 ls st h = zgo 102 (zpure (.bipush 12) 23 0 [] ls st h)) ∧
  (∀ (ls : zL) (st : zS) (h : zH), zx 102 23 ls st h = zgo 102 (zpure (.newarray .int) 25 0 [] ls st h)) ∧
  (∀ (ls : zL) (st : zS) (h : zH), zx 102 25 ls st h = zgo 102 (zpure (.putfield 16) 28 0 [6, 2, 7] ls st h)) ∧
  (∀ (ls : zL) (st : zS) (h : zH), zx 102 28 ls st h = zgo 102 (zpure (.aload_n 0) 29 0 [] ls st h)) ∧
  (∀ (ls : zL) (st : zS) (h : zH), zx 102 29 ls st h = zgo 102 (zpure (.bipush 12) 31 0 [] ls st h)) ∧
  (∀ (ls : zL) (st : zS) (h : zH), zx 102 31 ls st h = zgo 102 (zpure (.newarray .int) 33 0 [] ls st h)) ∧
  (∀ (ls : zL) (st : zS) (h : zH), zx 102 33 ls st h = zgo 102 (zpure (.putfield 19) 36 0 [6, 3, 7] ls st h)) ∧
  (∀ (ls : zL) (st : zS) (h : zH), zx 102 36 ls st h = zgo 102 (zpure (.aload_n 0) 37 0 [] ls st h)) ∧
  (∀ (ls : zL) (st : zS) (h : zH), zx 102 37 ls st h = zgo 102 (zpure (.bipush 12) 39 0 [] ls st h)) ∧
  (∀ (ls : zL) (st : zS) (h : zH), zx 102 39 ls st h = zgo 102 (zpure (.newarray .int) 41 0 [] ls st h)) ∧
  (∀ (ls : zL) (st : zS) (h : zH), zx 102 41 ls st h = zgo 102 (zpure (.putfield 22) 44 0 [6, 4, 7] ls st h)) ∧
  (∀ (ls : zL) (st : zS) (h : zH), zx 102 44 ls st h = zgo 102 (zpure (.aload_n 0) 45 0 [] ls st h)) ∧
  (∀ (ls : zL) (st : zS) (h : zH), zx 102 45 ls st h = zgo 102 (zpure (.bipush 12) 47 0 [] ls st h)) ∧
  (∀ (ls : zL) (st : zS) (h : zH), zx 102 47 ls st h = zgo 102 (zpure (.newarray .boolean) 49 0 [] ls st h)) ∧
  (∀ (ls : zL) (st : zS) (h : zH), zx 102 49 ls st h = zgo 102 (zpure (.putfield 25) 52 0 [6, 5, 7] ls st h)) ∧
  (∀ (ls : zL) (st : zS) (h : zH), zx 102 52 ls st h = zgo 102 (zpure (.aload_n 0) 53 0 [] ls st h)) ∧
  (∀ (ls : zL) (st : zS) (h : zH), zx 102 53 ls st h = zgo 102 (zpure (.bipush 12) 55 0 [] ls st h)) ∧
  (∀ (ls : zL) (st : zS) (h : zH), zx 102 55 ls st h = zgo 102 (zpure (.newarray .long) 57 0 [] ls st h)) ∧
  (∀ (ls : zL) (st : zS) (h : zH), zx 102 57 ls st h = zgo 102 (zpure (.putfield 29) 60 0 [6, 6, 7] ls st h)) ∧
  (∀ (ls : zL) (st : zS) (h : zH), zx 102 60 ls st h = zgo 102 (zpure (.aload_n 0) 61 0 [] ls st h)) ∧
  (∀ (ls : zL) (st : zS) (h : zH), zx 102 61 ls st h = zgo 102 (zpure (.bipush 12) 63 0 [] ls st h)) ∧
  (∀ (ls : zL) (st : zS) (h : zH), zx 102 63 ls st h = zgo 102 (zpure (.newarray .int) 65 0 [] ls st h)) ∧
  (∀ (ls : zL) (st : zS) (h : zH), zx 102 65 ls st h = zgo 102 (zpure (.putfield 33) 68 0 [6, 9, 7] ls st h)) ∧
  (∀ (ls : zL) (st : zS) (h : zH), zx 102 68 ls st h = zgo 102 (zpure (.aload_n 0) 69 0 [] ls st h)) ∧
  (∀ (ls : zL) (st : zS) (h : zH), zx 102 69 ls st h = zgo 102 (zpure (.bipush 12) 71 0 [] ls st h)) ∧
  (∀ (ls : zL) (st : zS) (h : zH), zx 102 71 ls st h = zgo 102 (zpure (.newarray .int) 73 0 [] ls st h)) ∧
  (∀ (ls : zL) (st : zS) (h : zH), zx 102 73 ls st h = zgo 102 (zpure (.putfield 36) 76 0 [6, 10, 7] ls st h)) ∧
  (∀ (ls : zL) (st : zS) (h : zH), zx 102 76 ls st h = zgo 102 (zpure (.aload_n 0) 77 0 [] ls st h)) ∧
  (∀ (ls : zL) (st : zS) (h : zH), zx 102 77 ls st h = zgo 102 (zpure (.bipush 12) 79 0 [] ls st h)) ∧
  (∀ (ls : zL) (st : zS) (h : zH), zx 102 79 ls st h = zgo 102 (zpure (.newarray .int) 81 0 [] ls st h)) ∧
  (∀ (ls : zL) (st : zS) (h : zH), zx 102 81 ls st h = zgo 102 (zpure (.putfield 39) 84 0 [6, 11, 7] ls st h)) ∧
  (∀ (ls : zL) (st : zS) (h : zH), zx 102 84 ls st h = zgo 102 (zpure (.aload_n 0) 85 0 [] ls st h)) ∧
  (∀ (ls : zL) (st : zS) (h : zH), zx 102 85 ls st h = zgo 102 (zpure (.bipush 12) 87 0 [] ls st h)) ∧
  (∀ (ls : zL) (st : zS) (h : zH), zx 102 87 ls st h = zgo 102 (zpure (.newarray .char) 89 0 [] ls st h)) ∧
  (∀ (ls : zL) (st : zS) (h : zH), zx 102 89 ls st h = zgo 102 (zpure (.putfield 42) 92 0 [6, 12, 7] ls st h)) ∧
  (∀ (ls : zL) (st : zS) (h : zH), zx 102 92 ls st h = zgo 102 (zpure (.aload_n 0) 93 0 [] ls st h)) ∧
  (∀ (ls : zL) (st : zS) (h : zH), zx 102 93 ls st h = zgo 102 (zpure (.bipush 12) 95 0 [] ls st h)) ∧
  (∀ (ls : zL) (st : zS) (h : zH), zx 102 95 ls st h = zgo 102 (zpure (.bipush 9) 97 0 [] ls st h)) ∧
  (∀ (ls : zL) (st : zS) (h : zH), zx 102 97 ls st h = zgo 102 (zpure (.multianewarray 46 2) 101 0 [28, 20] ls st h)) ∧
  (∀ (ls : zL) (st : zS) (h : zH), zx 102 101 ls st h = zgo 102 (zpure (.putfield 48) 104 0 [6, 13, 7] ls st h)) ∧
  (∀ (ls : zL) (st : zS) (h : zH), zx 102 104 ls st h = zgo 102 (zpure (.aload_n 0) 105 0 [] ls st h)) ∧
  (∀ (ls : zL) (st : zS) (h : zH), zx 102 105 ls st h = zgo 102 (zpure (.bipush 12) 107 0 [] ls st h)) ∧
  (∀ (ls : zL) (st : zS) (h : zH), zx 102 107 ls st h = zgo 102 (zpure (.newarray .int) 109 0 [] ls st h)) ∧
  (∀ (ls : zL) (st : zS) (h : zH), zx 102 109 ls st h = zgo 102 (zpure (.putfield 51) 112 0 [6, 14, 7] ls st h)) ∧
  (∀ (ls : zL) (st : zS) (h : zH), zx 102 112 ls st h = zgo 102 (zpure (.aload_n 0) 113 0 [] ls st h)) ∧
  (∀ (ls : zL) (st : zS) (h : zH), zx 102 113 ls st h = zgo 102 (zpure (.sipush 128) 116 0 [] ls st h)) ∧
  (∀ (ls : zL) (st : zS) (h : zH), zx 102 116 ls st h = zgo 102 (zpure (.newarray .int) 118 0 [] ls st h)) ∧
  (∀ (ls : zL) (st : zS) (h : zH), zx 102 118 ls st h = zgo 102 (zpure (.putfield 54) 121 0 [6, 17, 7] ls st h)) ∧
  (∀ (ls : zL) (st : zS) (h : zH), zx 102 121 ls st h = zgo 102 (zpure (.aload_n 0) 122 0 [] ls st h)) ∧
  (∀ (ls : zL) (st : zS) (h : zH), zx 102 122 ls st h = zgo 102 (zpure (.sipush 128) 125 0 [] ls st h)) ∧
  (∀ (ls : zL) (st : zS) (h : zH), zx 102 125 ls st h = zgo 102 (zpure (.newarray .int) 127 0 [] ls st h)) ∧
  (∀ (ls : zL) (st : zS) (h : zH), zx 102 127 ls st h = zgo 102 (zpure (.putfield 57) 130 0 [6, 18, 7] ls st h)) ∧
  (∀ (ls : zL) (st : zS) (h : zH), zx 102 130 ls st h = zgo 102 (zpure (.aload_n 0) 131 0 [] ls st h)) ∧
  (∀ (ls : zL) (st : zS) (h : zH), zx 102 131 ls st h = zgo 102 (zpure (.sipush 128) 134 0 [] ls st h)) ∧
  (∀ (ls : zL) (st : zS) (h : zH), zx 102 134 ls st h = zgo 102 (zpure (.newarray .int) 136 0 [] ls st h)) ∧
  (∀ (ls : zL) (st : zS) (h : zH), zx 102 136 ls st h = zgo 102 (zpure (.putfield 60) 139 0 [6, 19, 7] ls st h)) ∧
  (∀ (ls : zL) (st : zS) (h : zH), zx 102 139 ls st h = zgo 102 (zpure (.aload_n 0) 140 0 [] ls st h)) ∧
  (∀ (ls : zL) (st : zS) (h : zH), zx 102 140 ls st h = zgo 102 (zpure (.sipush 128) 143 0 [] ls st h)) ∧
  (∀ (ls : zL) (st : zS) (h : zH), zx 102 143 ls st h = zgo 102 (zpure (.newarray .int) 145 0 [] ls st h)) ∧
  (∀ (ls : zL) (st : zS) (h : zH), zx 102 145 ls st h = zgo 102 (zpure (.putfield 63) 148 0 [6, 20, 7] ls st h)) ∧
  (∀ (ls : zL) (st : zS) (h : zH), zx 102 148 ls st h = zgo 102 (zpure (.aload_n 0) 149 0 [] ls st h)) ∧
  (∀ (ls : zL) (st : zS) (h : zH), zx 102 149 ls st h = zgo 102 (zpure (.bipush 12) 151 0 [] ls st h)) ∧
  (∀ (ls : zL) (st : zS) (h : zH), zx 102 151 ls st h = zgo 102 (zpure (.newarray .boolean) 153 0 [] ls st h)) ∧
  (∀ (ls : zL) (st : zS) (h : zH), zx 102 153 ls st h = zgo 102 (zpure (.putfield 66) 156 0 [6, 22, 7] ls st h)) ∧
  (∀ (ls : zL) (st : zS) (h : zH), zx 102 156 ls st h = zgo 102 (zpure (.aload_n 0) 157 0 [] ls st h)) ∧
  (∀ (ls : zL) (st : zS) (h : zH), zx 102 157 ls st h = zgo 102 (zpure (.bipush 12) 159 0 [] ls st h)) ∧
  (∀ (ls : zL) (st : zS) (h : zH), zx 102 159 ls st h = zgo 102 (zpure (.newarray .boolean) 161 0 [] ls st h)) ∧
  (∀ (ls : zL) (st : zS) (h : zH), zx 102 161 ls st h = zgo 102 (zpure (.putfield 69) 164 0 [6, 23, 7] ls st h)) ∧
  (∀ (ls : zL) (st : zS) (h : zH), zx 102 164 ls st h = zgo 102 (zpure (.aload_n 0) 165 0 [] ls st h)) ∧
  (∀ (ls : zL) (st : zS) (h : zH), zx 102 165 ls st h = zgo 102 (zpure (.bipush 12) 167 0 [] ls st h)) ∧
  (∀ (ls : zL) (st : zS) (h : zH), zx 102 167 ls st h = zgo 102 (zpure (.newarray .boolean) 169 0 [] ls st h)) ∧
  (∀ (ls : zL) (st : zS) (h : zH), zx 102 169 ls st h = zgo 102 (zpure (.putfield 72) 172 0 [6, 24, 7] ls st h)) ∧
  (∀ (ls : zL) (st : zS) (h : zH), zx 102 172 ls st h = zgo 102 (zpure (.aload_n 0) 173 0 [] ls st h)) ∧
  (∀ (ls : zL) (st : zS) (h : zH), zx 102 173 ls st h = zgo 102 (zpure (.bipush 12) 175 0 [] ls st h)) ∧
  (∀ (ls : zL) (st : zS) (h : zH), zx 102 175 ls st h = zgo 102 (zpure (.newarray .int) 177 0 [] ls st h)) ∧
  (∀ (ls : zL) (st : zS) (h : zH), zx 102 177 ls st h = zgo 102 (zpure (.putfield 75) 180 0 [6, 25, 7] ls st h)) ∧
  (∀ (ls : zL) (st : zS) (h : zH), zx 102 180 ls st h = zgo 102 (zpure (.aload_n 0) 181 0 [] ls st h)) ∧
  (∀ (ls : zL) (st : zS) (h : zH), zx 102 181 ls st h = zgo 102 (zpure (.sipush 128) 184 0 [] ls st h)) ∧
  (∀ (ls : zL) (st : zS) (h : zH), zx 102 184 ls st h = zgo 102 (zpure (.newarray .int) 186 0 [] ls st h)) ∧
  (∀ (ls : zL) (st : zS) (h : zH), zx 102 186 ls st h = zgo 102 (zpure (.putfield 78) 189 0 [6, 28, 7] ls st h)) ∧
  (∀ (ls : zL) (st : zS) (h : zH), zx 102 189 ls st h = zgo 102 (zpure (.aload_n 0) 190 0 [] ls st h)) ∧
  (∀ (ls : zL) (st : zS) (h : zH), zx 102 190 ls st h = zgo 102 (zpure (.sipush 128) 193 0 [] ls st h)) ∧
  (∀ (ls : zL) (st : zS) (h : zH), zx 102 193 ls st h = zgo 102 (zpure (.newarray .int) 195 0 [] ls st h)) ∧
  (∀ (ls : zL) (st : zS) (h : zH), zx 102 195 ls st h = zgo 102 (zpure (.putfield 81) 198 0 [6, 29, 7] ls st h)) ∧
  (∀ (ls : zL) (st : zS) (h : zH), zx 102 198 ls st h = zret 8 st h) :=
  ⟨zx_0 rfl, zx_0 rfl, zx_0 rfl, zx_0 rfl, zx_0 rfl, zx_0 rfl, zx_0 rfl, zx_0 rfl, zx_0 rfl, zx_0 rfl, zx_0 rfl, zx_0 rfl, zx_0 rfl, zx_0 rfl, zx_0 rfl, zx_0 rfl, zx_0 rfl, zx_0 rfl, zx_0 rfl, zx_0 rfl, zx_0 rfl, zx_0 rfl, zx_0 rfl, zx_0 rfl, zx_0 rfl, zx_0 rfl, zx_0 rfl, zx_0 rfl, zx_0 rfl, zx_0 rfl, zx_0 rfl, zx_0 rfl, zx_0 rfl, zx_0 rfl, zx_0 rfl, zx_0 rfl, zx_0 rfl, zx_0 rfl, zx_0 rfl, zx_0 rfl, zx_0 rfl, zx_0 rfl, zx_0 rfl, zx_0 rfl, zx_0 rfl, zx_0 rfl, zx_0 rfl, zx_0 rfl, zx_0 rfl, zx_0 rfl, zx_0 rfl, zx_0 rfl, zx_0 rfl, zx_0 rfl, zx_0 rfl, zx_0 rfl, zx_0 rfl, zx_0 rfl, zx_0 rfl, zx_0 rfl, zx_0 rfl, zx_0 rfl, zx_0 rfl, zx_0 rfl, zx_0 rfl, zx_0 rfl, zx_0 rfl, zx_0 rfl, zx_0 rfl, zx_0 rfl, zx_0 rfl, zx_0 rfl, zx_0 rfl, zx_0 rfl, zx_0 rfl, zx_0 rfl, zx_0 rfl, zx_0 rfl, zx_0 rfl, zx_0 rfl, zx_0 rfl, zx_0 rfl, zx_0 rfl, zx_0 rfl, zx_0 rfl, zx_0 rfl, zx_0 rfl, zx_0 rfl, zx_0 rfl, zx_0 rfl, zx_0 rfl, zx_0 rfl, zx_0 rfl, zx_0 rfl, zx_0 rfl, zx_1 rfl⟩
/-- X6_thrown -/
theorem z103 :
  (∀ (ls : zL) (st : zS) (h : zH), zx 103 0 ls st h = zgo 103 (zpure (.aload_n 0) 1 0 [] ls st h)) ∧
  (∀ (ls : zL) (st : zS) (h : zH), zx 103 1 ls st h = zgo 103 (zpure (.getfield 84) 4 0 [6, 32] ls st h)) ∧
  (∀ (ls : zL) (st : zS) (h : zH), zx 103 4 ls st h = zret 0 st h) :=
  ⟨zx_0 rfl, zx_0 rfl, zx_1 rfl⟩
/-- X6_raises -/
theorem z104 :
  (∀ (ls : zL) (st : zS) (h : zH), zx 104 0 ls st h = zgo 104 (zpure (.aload_n 0) 1 0 [] ls st h)) ∧
  (∀ (ls : zL) (st : zS) (h : zH), zx 104 1 ls st h = zgo 104 (zpure (.iload_n 1) 2 0 [] ls st h)) ∧
  (∀ (ls : zL) (st : zS) (h : zH), zx 104 2 ls st h = zgo 104 (zpure (.putfield 84) 5 0 [6, 32, 0] ls st h)) ∧
  (∀ (ls : zL) (st : zS) (h : zH), zx 104 5 ls st h = zgo 104 (zpure (.iconst 0) 6 0 [] ls st h)) ∧
  (∀ (ls : zL) (st : zS) (h : zH), zx 104 6 ls st h = zret 0 st h) :=
  ⟨zx_0 rfl, zx_0 rfl, zx_0 rfl, zx_0 rfl, zx_1 rfl⟩
/-- X6_in -/
theorem z105 :
  (∀ (ls : zL) (st : zS) (h : zH), zx 105 0 ls st h = zgo 105 (zpure (.iload_n 0) 1 0 [] ls st h)) ∧
  (∀ (ls : zL) (st : zS) (h : zH), zx 105 1 ls st h = zgo 105 (zpure (.iload_n 1) 2 0 [] ls st h)) ∧
  (∀ (ls : zL) (st : zS) (h : zH), zx 105 2 ls st h = zgo 105 (zpure (.if_icmp .lt 12) 5 14 [] ls st h)) ∧
  (∀ (ls : zL) (st : zS) (h : zH), zx 105 5 ls st h = zgo 105 (zpure (.iload_n 0) 6 0 [] ls st h)) ∧
  (∀ (ls : zL) (st : zS) (h : zH), zx 105 6 ls st h = zgo 105 (zpure (.iload_n 2) 7 0 [] ls st h)) ∧
  (∀ (ls : zL) (st : zS) (h : zH), zx 105 7 ls st h = zgo 105 (zpure (.if_icmp .gt 7) 10 14 [] ls st h)) ∧
  (∀ (ls : zL) (st : zS) (h : zH), zx 105 10 ls st h = zgo 105 (zpure (.iconst 1) 11 0 [] ls st h)) ∧
  (∀ (ls : zL) (st : zS) (h : zH), zx 105 11 ls st h = zgo 105 (zpure (.goto 4) 14 15 [] ls st h)) ∧
  (∀ (ls : zL) (st : zS) (h : zH), zx 105 14 ls st h = zgo 105 (zpure (.iconst 0) 15 0 [] ls st h)) ∧
  (∀ (ls : zL) (st : zS) (h : zH), zx 105 15 ls st h = zret 1 st h) :=
  ⟨zx_0 rfl, zx_0 rfl, zx_0 rfl, zx_0 rfl, zx_0 rfl, zx_0 rfl, zx_0 rfl, zx_0 rfl, zx_0 rfl, zx_1 rfl⟩
/-- X6_isClip -/
theorem z106 :
  (∀ (ls : zL) (st : zS) (h : zH), zx 106 0 ls st h = zgo 106 (zpure (.iload_n 0) 1 0 [] ls st h)) ∧
  (∀ (ls : zL) (st : zS) (h : zH), zx 106 1 ls st h = zgo 106 (zpure (.iconst 1) 2 0 [] ls st h)) ∧
  (∀ (ls : zL) (st : zS) (h : zH), zx 106 2 ls st h = zgo 106 (zpure (.sipush 900) 5 0 [] ls st h)) ∧
  (∀ (ls : zL) (st : zS) (h : zH), zx 106 5 ls st h = zca 106 5 8 ls 105 3 0 (ztake 3 st) h) ∧
  (∀ (ls : zL) (st : zS) (h : zH), zx 106 8 ls st h = zgo 106 (zpure (.ifCond .eq 39) 11 47 [] ls st h)) ∧
  (∀ (ls : zL) (st : zS) (h : zH), zx 106 11 ls st h = zgo 106 (zpure (.iload_n 1) 12 0 [] ls st h)) ∧
  (∀ (ls : zL) (st : zS) (h : zH), zx 106 12 ls st h = zgo 106 (zpure (.bipush (-60)) 14 0 [] ls st h)) ∧
  (∀ (ls : zL) (st : zS) (h : zH), zx 106 14 ls st h = zgo 106 (zpure (.iconst 0) 15 0 [] ls st h)) ∧
  (∀ (ls : zL) (st : zS) (h : zH), zx 106 15 ls st h = zca 106 15 18 ls 105 3 0 (ztake 3 st) h) ∧
  (∀ (ls : zL) (st : zS) (h : zH), zx 106 18 ls st h = zgo 106 (zpure (.ifCond .eq 29) 21 47 [] ls st h)) ∧
  (∀ (ls : zL) (st : zS) (h : zH), zx 106 21 ls st h = zgo 106 (zpure (.iload_n 2) 22 0 [] ls st h)) ∧
  (∀ (ls : zL) (st : zS) (h : zH), zx 106 22 ls st h = zgo 106 (zpure (.iconst 0) 23 0 [] ls st h)) ∧
  (∀ (ls : zL) (st : zS) (h : zH), zx 106 23 ls st h = zgo 106 (zpure (.sipush 999) 26 0 [] ls st h)) ∧
  (∀ (ls : zL) (st : zS) (h : zH), zx 106 26 ls st h = zca 106 26 29 ls 105 3 0 (ztake 3 st) h) ∧
  (∀ (ls : zL) (st : zS) (h : zH), zx 106 29 ls st h = zgo 106 (zpure (.ifCond .eq 18) 32 47 [] ls st h)) ∧
  (∀ (ls : zL) (st : zS) (h : zH), zx 106 32 ls st h = zgo 106 (zpure (.iload_n 3) 33 0 [] ls st h)) ∧
  (∀ (ls : zL) (st : zS) (h : zH), zx 106 33 ls st h = zgo 106 (zpure (.iload_n 2) 34 0 [] ls st h)) ∧
  (∀ (ls : zL) (st : zS) (h : zH), zx 106 34 ls st h = zgo 106 (zpure (.sipush 999) 37 0 [] ls st h)) ∧
  (∀ (ls : zL) (st : zS) (h : zH), zx 106 37 ls st h = zca 106 37 40 ls 105 3 0 (ztake 3 st) h) ∧
  (∀ (ls : zL) (st : zS) (h : zH), zx 106 40 ls st h = zgo 106 (zpure (.ifCond .eq 7) 43 47 [] ls st h)) ∧
  (∀ (ls : zL) (st : zS) (h : zH), zx 106 43 ls st h = zgo 106 (zpure (.iconst 1) 44 0 [] ls st h)) ∧
  (∀ (ls : zL) (st : zS) (h : zH), zx 106 44 ls st h = zgo 106 (zpure (.goto 4) 47 48 [] ls st h)) ∧
  (∀ (ls : zL) (st : zS) (h : zH), zx 106 47 ls st h = zgo 106 (zpure (.iconst 0) 48 0 [] ls st h)) ∧
  (∀ (ls : zL) (st : zS) (h : zH), zx 106 48 ls st h = zret 1 st h) :=
  ⟨zx_0 rfl, zx_0 rfl, zx_0 rfl, zx_2c rfl, zx_0 rfl, zx_0 rfl, zx_0 rfl, zx_0 rfl, zx_2c rfl, zx_0 rfl, zx_0 rfl, zx_0 rfl, zx_0 rfl, zx_2c rfl, zx_0 rfl, zx_0 rfl, zx_0 rfl, zx_0 rfl, zx_2c rfl, zx_0 rfl, zx_0 rfl, zx_0 rfl, zx_0 rfl, zx_1 rfl⟩
/-- X6_adds -/
theorem z107 :
  (∀ (ls : zL) (st : zS) (h : zH), zx 107 0 ls st h = zgo 107 (zpure (.aload_n 0) 1 0 [] ls st h)) ∧
  (∀ (ls : zL) (st : zS) (h : zH), zx 107 1 ls st h = zgo 107 (zpure (.getfield 9) 4 0 [6, 0] ls st h)) ∧
  (∀ (ls : zL) (st : zS) (h : zH), zx 107 4 ls st h = zgo 107 (zpure (.aload_n 0) 5 0 [] ls st h)) ∧
  (∀ (ls : zL) (st : zS) (h : zH), zx 107 5 ls st h = zgo 107 (zpure (.getfield 92) 8 0 [6, 7] ls st h)) ∧
  (∀ (ls : zL) (st : zS) (h : zH), zx 107 8 ls st h = zgo 107 (zpure (.iload_n 1) 9 0 [] ls st h)) ∧
  (∀ (ls : zL) (st : zS) (h : zH), zx 107 9 ls st h = zgo 107 (zpure .iastore 10 0 [] ls st h)) ∧
  (∀ (ls : zL) (st : zS) (h : zH), zx 107 10 ls st h = zgo 107 (zpure (.aload_n 0) 11 0 [] ls st h)) ∧
  (∀ (ls : zL) (st : zS) (h : zH), zx 107 11 ls st h = zgo 107 (zpure (.getfield 13) 14 0 [6, 1] ls st h)) ∧
  (∀ (ls : zL) (st : zS) (h : zH), zx 107 14 ls st h = zgo 107 (zpure (.aload_n 0) 15 0 [] ls st h)) ∧
  (∀ (ls : zL) (st : zS) (h : zH), zx 107 15 ls st h = zgo 107 (zpure (.getfield 92) 18 0 [6, 7] ls st h)) ∧
  (∀ (ls : zL) (st : zS) (h : zH), zx 107 18 ls st h = zgo 107 (zpure (.iload_n 2) 19 0 [] ls st h)) ∧
  (∀ (ls : zL) (st : zS) (h : zH), zx 107 19 ls st h = zgo 107 (zpure .iastore 20 0 [] ls st h)) ∧
  (∀ (ls : zL) (st : zS) (h : zH), zx 107 20 ls st h = zgo 107 (zpure (.aload_n 0) 21 0 [] ls st h)) ∧
  (∀ (ls : zL) (st : zS) (h : zH), zx 107 21 ls st h = zgo 107 (zpure (.getfield 16) 24 0 [6, 2] ls st h)) ∧
  (∀ (ls : zL) (st : zS) (h : zH), zx 107 24 ls st h = zgo 107 (zpure (.aload_n 0) 25 0 [] ls st h)) ∧
  (∀ (ls : zL) (st : zS) (h : zH), zx 107 25 ls st h = zgo 107 (zpure (.getfield 92) 28 0 [6, 7] ls st h)) ∧
  (∀ (ls : zL) (st : zS) (h : zH), zx 107 28 ls st h = zgo 107 (zpure (.iload_n 3) 29 0 [] ls st h)) ∧
  (∀ (ls : zL) (st : zS) (h : zH), zx 107 29 ls st h = zgo 107 (zpure .iastore 30 0 [] ls st h)) ∧
  (∀ (ls : zL) (st : zS) (h : zH), zx 107 30 ls st h = zgo 107 (zpure (.aload_n 0) 31 0 [] ls st h)) ∧
  (∀ (ls : zL) (st : zS) (h : zH), zx 107 31 ls st h = zgo 107 (zpure (.getfield 19) 34 0 [6, 3] ls st h)) ∧
  (∀ (ls : zL) (st : zS) (h : zH), zx 107 34 ls st h = zgo 107 (zpure (.aload_n 0) 35 0 [] ls st h)) ∧
  (∀ (ls : zL) (st : zS) (h : zH), zx 107 35 ls st h = zgo 107 (zpure (.getfield 92) 38 0 [6, 7] ls st h)) ∧
  (∀ (ls : zL) (st : zS) (h : zH), zx 107 38 ls st h = zgo 107 (zpure (.iload 4) 40 0 [] ls st h)) ∧
  (∀ (ls : zL) (st : zS) (h : zH), zx 107 40 ls st h = zgo 107 (zpure .iastore 41 0 [] ls st h)) ∧
  (∀ (ls : zL) (st : zS) (h : zH), zx 107 41 ls st h = zgo 107 (zpure (.aload_n 0) 42 0 [] ls st h)) ∧
  (∀ (ls : zL) (st : zS) (h : zH), zx 107 42 ls st h = zgo 107 (zpure (.getfield 22) 45 0 [6, 4] ls st h)) ∧
  (∀ (ls : zL) (st : zS) (h : zH), zx 107 45 ls st h = zgo 107 (zpure (.aload_n 0) 46 0 [] ls st h)) ∧
  (∀ (ls : zL) (st : zS) (h : zH), zx 107 46 ls st h = zgo 107 (zpure (.getfield 92) 49 0 [6, 7] ls st h)) ∧
  (∀ (ls : zL) (st : zS) (h : zH), zx 107 49 ls st h = zgo 107 (zpure (.iload 5) 51 0 [] ls st h)) ∧
  (∀ (ls : zL) (st : zS) (h : zH), zx 107 51 ls st h = zgo 107 (zpure .iastore 52 0 [] ls st h)) ∧
  (∀ (ls : zL) (st : zS) (h : zH), zx 107 52 ls st h = zgo 107 (zpure (.aload_n 0) 53 0 [] ls st h)) ∧
  (∀ (ls : zL) (st : zS) (h : zH), zx 107 53 ls st h = zgo 107 (zpure (.getfield 25) 56 0 [6, 5] ls st h)) ∧
  (∀ (ls : zL) (st : zS) (h : zH), zx 107 56 ls st h = zgo 107 (zpure (.aload_n 0) 57 0 [] ls st h)) ∧
  (∀ (ls : zL) (st : zS) (h : zH), zx 107 57 ls st h = zgo 107 (zpure (.getfield 92) 60 0 [6, 7] ls st h)) ∧
  (∀ (ls : zL) (st : zS) (h : zH), zx 107 60 ls st h = zgo 107 (zpure (.iload 6) 62 0 [] ls st h)) ∧
  (∀ (ls : zL) (st : zS) (h : zH), zx 107 62 ls st h = zgo 107 (zpure .bastore 63 0 [] ls st h)) ∧
  (∀ (ls : zL) (st : zS) (h : zH), zx 107 63 ls st h = zgo 107 (zpure (.aload_n 0) 64 0 [] ls st h)) ∧
  (∀ (ls : zL) (st : zS) (h : zH), zx 107 64 ls st h = zgo 107 (zpure .dup 65 0 [] ls st h)) ∧
  (∀ (ls : zL) (st : zS) (h : zH), zx 107 65 ls st h = zgo 107 (zpure (.getfield 95) 68 0 [6, 8] ls st h)) ∧
  (∀ (ls : zL) (st : zS) (h : zH), zx 107 68 ls st h = zgo 107 (zpure (.iload 6) 70 0 [] ls st h)) ∧
  (∀ (ls : zL) (st : zS) (h : zH), zx 107 70 ls st h = zgo 107 (zpure (.ifCond .eq 7) 73 77 [] ls st h)) ∧
  (∀ (ls : zL) (st : zS) (h : zH), zx 107 73 ls st h = zgo 107 (zpure (.iconst 1) 74 0 [] ls st h)) ∧
  (∀ (ls : zL) (st : zS) (h : zH), zx 107 74 ls st h = zgo 107 (zpure (.goto 4) 77 78 [] ls st h)) ∧
  (∀ (ls : zL) (st : zS) (h : zH), zx 107 77 ls st h = zgo 107 (zpure (.iconst 0) 78 0 [] ls st h)) ∧
  (∀ (ls : zL) (st : zS) (h : zH), zx 107 78 ls st h = zgo 107 (zpure .iadd 79 0 [] ls st h)) ∧
  (∀ (ls : zL) (st : zS) (h : zH), zx 107 79 ls st h = zgo 107 (zpure (.putfield 95) 82 0 [6, 8, 0] ls st h)) ∧
  (∀ (ls : zL) (st : zS) (h : zH), zx 107 82 ls st h = zgo 107 (zpure (.aload_n 0) 83 0 [] ls st h)) ∧
  (∀ (ls : zL) (st : zS) (h : zH), zx 107 83 ls st h = zgo 107 (zpure .dup 84 0 [] ls st h)) ∧
  (∀ (ls : zL) (st : zS) (h : zH), zx 107 84 ls st h = zgo 107 (zpure (.getfield 92) 87 0 [6, 7] ls st h)) ∧
  (∀ (ls : zL) (st : zS) (h : zH), zx 107 87 ls st h = zgo 107 (zpure (.iconst 1) 88 0 [] ls st h)) ∧
  (∀ (ls : zL) (st : zS) (h : zH), zx 107 88 ls st h = zgo 107 (zpure .iadd 89 0 [] ls st h)) ∧
  (∀ (ls : zL) (st : zS) (h : zH), zx 107 89 ls st h = zgo 107 (zpure (.putfield 92) 92 0 [6, 7, 0] ls st h)) ∧
  (∀ (ls : zL) (st : zS) (h : zH), zx 107 92 ls st h = zgo 107 (zpure (.aload_n 0) 93 0 [] ls st h)) ∧
  (∀ (ls : zL) (st : zS) (h : zH), zx 107 93 ls st h = zgo 107 (zpure (.getfield 92) 96 0 [6, 7] ls st h)) ∧
  (∀ (ls : zL) (st : zS) (h : zH), zx 107 96 ls st h = zgo 107 (zpure (.iconst 1) 97 0 [] ls st h)) ∧
  (∀ (ls : zL) (st : zS) (h : zH), zx 107 97 ls st h = zgo 107 (zpure .isub 98 0 [] ls st h)) ∧
  (∀ (ls : zL) (st : zS) (h : zH), zx 107 98 ls st h = zret 0 st h) :=
  ⟨zx_0 rfl, zx_0 rfl, zx_0 rfl, zx_0 rfl, zx_0 rfl, zx_0 rfl, zx_0 rfl, zx_0 rfl, zx_0 rfl, zx_0 rfl, zx_0 rfl, zx_0 rfl, zx_0 rfl, zx_0 rfl, zx_0 rfl, zx_0 rfl, zx_0 rfl, zx_0 rfl, zx_0 rfl, zx_0 rfl, zx_0 rfl, zx_0 rfl, zx_0 rfl, zx_0 rfl, zx_0 rfl, zx_0 rfl, zx_0 rfl, zx_0 rfl, zx_0 rfl, zx_0 rfl, zx_0 rfl, zx_0 rfl, zx_0 rfl, zx_0 rfl, zx_0 rfl, zx_0 rfl, zx_0 rfl, zx_0 rfl, zx_0 rfl, zx_0 rfl, zx_0 rfl, zx_0 rfl, zx_0 rfl, zx_0 rfl, zx_0 rfl, zx_0 rfl, zx_0 rfl, zx_0 rfl, zx_0 rfl, zx_0 rfl, zx_0 rfl, zx_0 rfl, zx_0 rfl, zx_0 rfl, zx_0 rfl, zx_0 rfl, zx_1 rfl⟩
/-- X6_addProgramme -/
theorem z108 :
  (∀ (ls : zL) (st : zS) (h : zH), zx 108 0 ls st h = zgo 108 (zpure (.aload_n 0) 1 0 [] ls st h)) ∧
  (∀ (ls : zL) (st : zS) (h : zH), zx 108 1 ls st h = zgo 108 (zpure (.iload_n 1) 2 0 [] ls st h)) ∧
  (∀ (ls : zL) (st : zS) (h : zH), zx 108 2 ls st h = zgo 108 (zpure (.iload_n 2) 3 0 [] ls st h)) ∧
  (∀ (ls : zL) (st : zS) (h : zH), zx 108 3 ls st h = zgo 108 (zpure (.iload 4) 5 0 [] ls st h)) ∧
  (∀ (ls : zL) (st : zS) (h : zH), zx 108 5 ls st h = zgo 108 (zpure (.iload 5) 7 0 [] ls st h)) ∧
  (∀ (ls : zL) (st : zS) (h : zH), zx 108 7 ls st h = zca 108 7 10 ls 106 4 0 (ztake 4 st) h) ∧
  (∀ (ls : zL) (st : zS) (h : zH), zx 108 10 ls st h = zgo 108 (zpure (.ifCond .eq 13) 13 23 [] ls st h)) ∧
  (∀ (ls : zL) (st : zS) (h : zH), zx 108 13 ls st h = zgo 108 (zpure (.iload_n 3) 14 0 [] ls st h)) ∧
  (∀ (ls : zL) (st : zS) (h : zH), zx 108 14 ls st h = zgo 108 (zpure (.iconst 0) 15 0 [] ls st h)) ∧
  (∀ (ls : zL) (st : zS) (h : zH), zx 108 15 ls st h = zgo 108 (zpure (.bipush 99) 17 0 [] ls st h)) ∧
  (∀ (ls : zL) (st : zS) (h : zH), zx 108 17 ls st h = zca 108 17 20 ls 105 3 0 (ztake 3 st) h) ∧
  (∀ (ls : zL) (st : zS) (h : zH), zx 108 20 ls st h = zgo 108 (zpure (.ifCond .ne 7) 23 27 [] ls st h)) ∧
  (∀ (ls : zL) (st : zS) (h : zH), zx 108 23 ls st h = zgo 108 (zpure (.iconst 1) 24 0 [] ls st h)) ∧
  (∀ (ls : zL) (st : zS) (h : zH), zx 108 24 ls st h = zgo 108 (zpure (.goto 17) 27 41 [] ls st h)) ∧
  (∀ (ls : zL) (st : zS) (h : zH), zx 108 27 ls st h = zgo 108 (zpure (.aload_n 0) 28 0 [] ls st h)) ∧
  (∀ (ls : zL) (st : zS) (h : zH), zx 108 28 ls st h = zgo 108 (zpure (.getfield 92) 31 0 [6, 7] ls st h)) ∧
  (∀ (ls : zL) (st : zS) (h : zH), zx 108 31 ls st h = zgo 108 (zpure (.bipush 12) 33 0 [] ls st h)) ∧
  (∀ (ls : zL) (st : zS) (h : zH), zx 108 33 ls st h = zgo 108 (zpure (.if_icmp .ne 7) 36 40 [] ls st h)) ∧
  (∀ (ls : zL) (st : zS) (h : zH), zx 108 36 ls st h = zgo 108 (zpure (.iconst 2) 37 0 [] ls st h)) ∧
  (∀ (ls : zL) (st : zS) (h : zH), zx 108 37 ls st h = zgo 108 (zpure (.goto 4) 40 41 [] ls st h)) ∧
  (∀ (ls : zL) (st : zS) (h : zH), zx 108 40 ls st h = zgo 108 (zpure (.iconst 0) 41 0 [] ls st h)) ∧
  (∀ (ls : zL) (st : zS) (h : zH), zx 108 41 ls st h = zgo 108 (zpure (.putfield 84) 44 0 [6, 32, 0] ls st h)) ∧
  (∀ (ls : zL) (st : zS) (h : zH), zx 108 44 ls st h = zgo 108 (zpure (.aload_n 0) 45 0 [] ls st h)) ∧
  (∀ (ls : zL) (st : zS) (h : zH), zx 108 45 ls st h = zgo 108 (zpure (.getfield 84) 48 0 [6, 32] ls st h)) ∧
  (∀ (ls : zL) (st : zS) (h : zH), zx 108 48 ls st h = zgo 108 (zpure (.ifCond .le 7) 51 55 [] ls st h)) ∧
  (∀ (ls : zL) (st : zS) (h : zH), zx 108 51 ls st h = zgo 108 (zpure (.iconst 0) 52 0 [] ls st h)) ∧
  (∀ (ls : zL) (st : zS) (h : zH), zx 108 52 ls st h = zgo 108 (zpure (.goto 15) 55 67 [] ls st h)) ∧
  (∀ (ls : zL) (st : zS) (h : zH), zx 108 55 ls st h = zgo 108 (zpure (.aload_n 0) 56 0 [] ls st h)) ∧
  (∀ (ls : zL) (st : zS) (h : zH), zx 108 56 ls st h = zgo 108 (zpure (.iload_n 1) 57 0 [] ls st h)) ∧
  (∀ (ls : zL) (st : zS) (h : zH), zx 108 57 ls st h = zgo 108 (zpure (.iload_n 2) 58 0 [] ls st h)) ∧
  (∀ (ls : zL) (st : zS) (h : zH), zx 108 58 ls st h = zgo 108 (zpure (.iload_n 3) 59 0 [] ls st h)) ∧
  (∀ (ls : zL) (st : zS) (h : zH), zx 108 59 ls st h = zgo 108 (zpure (.iload 4) 61 0 [] ls st h)) ∧
  (∀ (ls : zL) (st : zS) (h : zH), zx 108 61 ls st h = zgo 108 (zpure (.iload 5) 63 0 [] ls st h)) ∧
  (∀ (ls : zL) (st : zS) (h : zH), zx 108 63 ls st h = zgo 108 (zpure (.iconst 0) 64 0 [] ls st h)) ∧
  (∀ (ls : zL) (st : zS) (h : zH), zx 108 64 ls st h = zca 108 64 67 ls 107 7 7 (ztake 7 st) h) ∧
  (∀ (ls : zL) (st : zS) (h : zH), zx 108 67 ls st h = zret 0 st h) :=
  ⟨zx_0 rfl, zx_0 rfl, zx_0 rfl, zx_0 rfl, zx_0 rfl, zx_2c rfl, zx_0 rfl, zx_0 rfl, zx_0 rfl, zx_0 rfl, zx_2c rfl, zx_0 rfl, zx_0 rfl, zx_0 rfl, zx_0 rfl, zx_0 rfl, zx_0 rfl, zx_0 rfl, zx_0 rfl, zx_0 rfl, zx_0 rfl, zx_0 rfl, zx_0 rfl, zx_0 rfl, zx_0 rfl, zx_0 rfl, zx_0 rfl, zx_0 rfl, zx_0 rfl, zx_0 rfl, zx_0 rfl, zx_0 rfl, zx_0 rfl, zx_0 rfl, zx_2c rfl, zx_1 rfl⟩
/-- X6_addPiece -/
theorem z109 :
  (∀ (ls : zL) (st : zS) (h : zH), zx 109 0 ls st h = zgo 109 (zpure (.aload_n 0) 1 0 [] ls st h)) ∧
  (∀ (ls : zL) (st : zS) (h : zH), zx 109 1 ls st h = zgo 109 (zpure (.iload_n 1) 2 0 [] ls st h)) ∧
  (∀ (ls : zL) (st : zS) (h : zH), zx 109 2 ls st h = zgo 109 (zpure (.iload_n 2) 3 0 [] ls st h)) ∧
  (∀ (ls : zL) (st : zS) (h : zH), zx 109 3 ls st h = zgo 109 (zpure (.iload_n 3) 4 0 [] ls st h)) ∧
  (∀ (ls : zL) (st : zS) (h : zH), zx 109 4 ls st h = zgo 109 (zpure (.iload 4) 6 0 [] ls st h)) ∧
  (∀ (ls : zL) (st : zS) (h : zH), zx 109 6 ls st h = zca 109 6 9 ls 106 4 0 (ztake 4 st) h) ∧
  (∀ (ls : zL) (st : zS) (h : zH), zx 109 9 ls st h = zgo 109 (zpure (.ifCond .ne 7) 12 16 [] ls st h)) ∧
  (∀ (ls : zL) (st : zS) (h : zH), zx 109 12 ls st h = zgo 109 (zpure (.iconst 1) 13 0 [] ls st h)) ∧
  (∀ (ls : zL) (st : zS) (h : zH), zx 109 13 ls st h = zgo 109 (zpure (.goto 26) 16 39 [] ls st h)) ∧
  (∀ (ls : zL) (st : zS) (h : zH), zx 109 16 ls st h = zgo 109 (zpure (.aload_n 0) 17 0 [] ls st h)) ∧
  (∀ (ls : zL) (st : zS) (h : zH), zx 109 17 ls st h = zgo 109 (zpure (.getfield 92) 20 0 [6, 7] ls st h)) ∧
  (∀ (ls : zL) (st : zS) (h : zH), zx 109 20 ls st h = zgo 109 (zpure (.bipush 12) 22 0 [] ls st h)) ∧
  (∀ (ls : zL) (st : zS) (h : zH), zx 109 22 ls st h = zgo 109 (zpure (.if_icmp .eq 12) 25 34 [] ls st h)) ∧
  (∀ (ls : zL) (st : zS) (h : zH), zx 109 25 ls st h = zgo 109 (zpure (.aload_n 0) 26 0 [] ls st h)) ∧
  (∀ (ls : zL) (st : zS) (h : zH), zx 109 26 ls st h = zgo 109 (zpure (.getfield 95) 29 0 [6, 8] ls st h)) ∧
  (∀ (ls : zL) (st : zS) (h : zH), zx 109 29 ls st h = zgo 109 (zpure (.bipush 8) 31 0 [] ls st h)) ∧
  (∀ (ls : zL) (st : zS) (h : zH), zx 109 31 ls st h = zgo 109 (zpure (.if_icmp .ne 7) 34 38 [] ls st h)) ∧
  (∀ (ls : zL) (st : zS) (h : zH), zx 109 34 ls st h = zgo 109 (zpure (.iconst 2) 35 0 [] ls st h)) ∧
  (∀ (ls : zL) (st : zS) (h : zH), zx 109 35 ls st h = zgo 109 (zpure (.goto 4) 38 39 [] ls st h)) ∧
  (∀ (ls : zL) (st : zS) (h : zH), zx 109 38 ls st h = zgo 109 (zpure (.iconst 0) 39 0 [] ls st h)) ∧
  (∀ (ls : zL) (st : zS) (h : zH), zx 109 39 ls st h = zgo 109 (zpure (.putfield 84) 42 0 [6, 32, 0] ls st h)) ∧
  (∀ (ls : zL) (st : zS) (h : zH), zx 109 42 ls st h = zgo 109 (zpure (.aload_n 0) 43 0 [] ls st h)) ∧
  (∀ (ls : zL) (st : zS) (h : zH), zx 109 43 ls st h = zgo 109 (zpure (.getfield 84) 46 0 [6, 32] ls st h)) ∧
  (∀ (ls : zL) (st : zS) (h : zH), zx 109 46 ls st h = zgo 109 (zpure (.ifCond .le 7) 49 53 [] ls st h)) ∧
  (∀ (ls : zL) (st : zS) (h : zH), zx 109 49 ls st h = zgo 109 (zpure (.iconst 0) 50 0 [] ls st h)) ∧
  (∀ (ls : zL) (st : zS) (h : zH), zx 109 50 ls st h = zgo 109 (zpure (.goto 14) 53 64 [] ls st h)) ∧
  (∀ (ls : zL) (st : zS) (h : zH), zx 109 53 ls st h = zgo 109 (zpure (.aload_n 0) 54 0 [] ls st h)) ∧
  (∀ (ls : zL) (st : zS) (h : zH), zx 109 54 ls st h = zgo 109 (zpure (.iload_n 1) 55 0 [] ls st h)) ∧
  (∀ (ls : zL) (st : zS) (h : zH), zx 109 55 ls st h = zgo 109 (zpure (.iload_n 2) 56 0 [] ls st h)) ∧
  (∀ (ls : zL) (st : zS) (h : zH), zx 109 56 ls st h = zgo 109 (zpure (.iconst 0) 57 0 [] ls st h)) ∧
  (∀ (ls : zL) (st : zS) (h : zH), zx 109 57 ls st h = zgo 109 (zpure (.iload_n 3) 58 0 [] ls st h)) ∧
  (∀ (ls : zL) (st : zS) (h : zH), zx 109 58 ls st h = zgo 109 (zpure (.iload 4) 60 0 [] ls st h)) ∧
  (∀ (ls : zL) (st : zS) (h : zH), zx 109 60 ls st h = zgo 109 (zpure (.iconst 1) 61 0 [] ls st h)) ∧
  (∀ (ls : zL) (st : zS) (h : zH), zx 109 61 ls st h = zca 109 61 64 ls 107 7 7 (ztake 7 st) h) ∧
  (∀ (ls : zL) (st : zS) (h : zH), zx 109 64 ls st h = zret 0 st h) :=
  ⟨zx_0 rfl, zx_0 rfl, zx_0 rfl, zx_0 rfl, zx_0 rfl, zx_2c rfl, zx_0 rfl, zx_0 rfl, zx_0 rfl, zx_0 rfl, zx_0 rfl, zx_0 rfl, zx_0 rfl, zx_0 rfl, zx_0 rfl, zx_0 rfl, zx_0 rfl, zx_0 rfl, zx_0 rfl, zx_0 rfl, zx_0 rfl, zx_0 rfl, zx_0 rfl, zx_0 rfl, zx_0 rfl, zx_0 rfl, zx_0 rfl, zx_0 rfl, zx_0 rfl, zx_0 rfl, zx_0 rfl, zx_0 rfl, zx_0 rfl, zx_2c rfl, zx_1 rfl⟩
/-- X6_isClip_ -/
theorem z110 :
  (∀ (ls : zL) (st : zS) (h : zH), zx 110 0 ls st h = zgo 110 (zpure (.iload_n 1) 1 0 [] ls st h)) ∧
  (∀ (ls : zL) (st : zS) (h : zH), zx 110 1 ls st h = zgo 110 (zpure (.iconst 0) 2 0 [] ls st h)) ∧
  (∀ (ls : zL) (st : zS) (h : zH), zx 110 2 ls st h = zgo 110 (zpure (.aload_n 0) 3 0 [] ls st h)) ∧
  (∀ (ls : zL) (st : zS) (h : zH), zx 110 3 ls st h = zgo 110 (zpure (.getfield 92) 6 0 [6, 7] ls st h)) ∧
  (∀ (ls : zL) (st : zS) (h : zH), zx 110 6 ls st h = zgo 110 (zpure (.iconst 1) 7 0 [] ls st h)) ∧
  (∀ (ls : zL) (st : zS) (h : zH), zx 110 7 ls st h = zgo 110 (zpure .isub 8 0 [] ls st h)) ∧
  (∀ (ls : zL) (st : zS) (h : zH), zx 110 8 ls st h = zca 110 8 11 ls 105 3 0 (ztake 3 st) h) ∧
  (∀ (ls : zL) (st : zS) (h : zH), zx 110 11 ls st h = zret 1 st h) :=
  ⟨zx_0 rfl, zx_0 rfl, zx_0 rfl, zx_0 rfl, zx_0 rfl, zx_0 rfl, zx_2c rfl, zx_1 rfl⟩
/-- X6_plays -/
theorem z111 :
  (∀ (ls : zL) (st : zS) (h : zH), zx 111 0 ls st h = zgo 111 (zpure (.aload_n 0) 1 0 [] ls st h)) ∧
  (∀ (ls : zL) (st : zS) (h : zH), zx 111 1 ls st h = zgo 111 (zpure (.aload_n 0) 2 0 [] ls st h)) ∧
  (∀ (ls : zL) (st : zS) (h : zH), zx 111 2 ls st h = zgo 111 (zpure (.iload_n 1) 3 0 [] ls st h)) ∧
  (∀ (ls : zL) (st : zS) (h : zH), zx 111 3 ls st h = zca 111 3 6 ls 110 2 7 (ztake 2 st) h) ∧
  (∀ (ls : zL) (st : zS) (h : zH), zx 111 6 ls st h = zgo 111 (zpure (.ifCond .ne 7) 9 13 [] ls st h)) ∧
  (∀ (ls : zL) (st : zS) (h : zH), zx 111 9 ls st h = zgo 111 (zpure (.iconst 1) 10 0 [] ls st h)) ∧
  (∀ (ls : zL) (st : zS) (h : zH), zx 111 10 ls st h = zgo 111 (zpure (.goto 17) 13 27 [] ls st h)) ∧
  (∀ (ls : zL) (st : zS) (h : zH), zx 111 13 ls st h = zgo 111 (zpure (.aload_n 0) 14 0 [] ls st h)) ∧
  (∀ (ls : zL) (st : zS) (h : zH), zx 111 14 ls st h = zgo 111 (zpure (.getfield 25) 17 0 [6, 5] ls st h)) ∧
  (∀ (ls : zL) (st : zS) (h : zH), zx 111 17 ls st h = zgo 111 (zpure (.iload_n 1) 18 0 [] ls st h)) ∧
  (∀ (ls : zL) (st : zS) (h : zH), zx 111 18 ls st h = zgo 111 (zpure .baload 19 0 [] ls st h)) ∧
  (∀ (ls : zL) (st : zS) (h : zH), zx 111 19 ls st h = zgo 111 (zpure (.ifCond .eq 7) 22 26 [] ls st h)) ∧
  (∀ (ls : zL) (st : zS) (h : zH), zx 111 22 ls st h = zgo 111 (zpure (.iconst 2) 23 0 [] ls st h)) ∧
  (∀ (ls : zL) (st : zS) (h : zH), zx 111 23 ls st h = zgo 111 (zpure (.goto 4) 26 27 [] ls st h)) ∧
  (∀ (ls : zL) (st : zS) (h : zH), zx 111 26 ls st h = zgo 111 (zpure (.iconst 0) 27 0 [] ls st h)) ∧
  (∀ (ls : zL) (st : zS) (h : zH), zx 111 27 ls st h = zgo 111 (zpure (.putfield 84) 30 0 [6, 32, 0] ls st h)) ∧
  (∀ (ls : zL) (st : zS) (h : zH), zx 111 30 ls st h = zgo 111 (zpure (.aload_n 0) 31 0 [] ls st h)) ∧
  (∀ (ls : zL) (st : zS) (h : zH), zx 111 31 ls st h = zgo 111 (zpure (.getfield 84) 34 0 [6, 32] ls st h)) ∧
  (∀ (ls : zL) (st : zS) (h : zH), zx 111 34 ls st h = zgo 111 (zpure (.ifCond .le 7) 37 41 [] ls st h)) ∧
  (∀ (ls : zL) (st : zS) (h : zH), zx 111 37 ls st h = zgo 111 (zpure (.iconst 0) 38 0 [] ls st h)) ∧
  (∀ (ls : zL) (st : zS) (h : zH), zx 111 38 ls st h = zgo 111 (zpure (.goto 9) 41 47 [] ls st h)) ∧
  (∀ (ls : zL) (st : zS) (h : zH), zx 111 41 ls st h = zgo 111 (zpure (.aload_n 0) 42 0 [] ls st h)) ∧
  (∀ (ls : zL) (st : zS) (h : zH), zx 111 42 ls st h = zgo 111 (zpure (.getfield 16) 45 0 [6, 2] ls st h)) ∧
  (∀ (ls : zL) (st : zS) (h : zH), zx 111 45 ls st h = zgo 111 (zpure (.iload_n 1) 46 0 [] ls st h)) ∧
  (∀ (ls : zL) (st : zS) (h : zH), zx 111 46 ls st h = zgo 111 (zpure .iaload 47 0 [] ls st h)) ∧
  (∀ (ls : zL) (st : zS) (h : zH), zx 111 47 ls st h = zret 0 st h) :=
  ⟨zx_0 rfl, zx_0 rfl, zx_0 rfl, zx_2c rfl, zx_0 rfl, zx_0 rfl, zx_0 rfl, zx_0 rfl, zx_0 rfl, zx_0 rfl, zx_0 rfl, zx_0 rfl, zx_0 rfl, zx_0 rfl, zx_0 rfl, zx_0 rfl, zx_0 rfl, zx_0 rfl, zx_0 rfl, zx_0 rfl, zx_0 rfl, zx_0 rfl, zx_0 rfl, zx_0 rfl, zx_0 rfl, zx_1 rfl⟩
/-- X6_addPlays -/
theorem z112 :
  (∀ (ls : zL) (st : zS) (h : zH), zx 112 0 ls st h = zgo 112 (zpure (.aload_n 0) 1 0 [] ls st h)) ∧
  (∀ (ls : zL) (st : zS) (h : zH), zx 112 1 ls st h = zgo 112 (zpure (.aload_n 0) 2 0 [] ls st h)) ∧
  (∀ (ls : zL) (st : zS) (h : zH), zx 112 2 ls st h = zgo 112 (zpure (.iload_n 1) 3 0 [] ls st h)) ∧
  (∀ (ls : zL) (st : zS) (h : zH), zx 112 3 ls st h = zca 112 3 6 ls 110 2 7 (ztake 2 st) h) ∧
  (∀ (ls : zL) (st : zS) (h : zH), zx 112 6 ls st h = zgo 112 (zpure (.ifCond .ne 7) 9 13 [] ls st h)) ∧
  (∀ (ls : zL) (st : zS) (h : zH), zx 112 9 ls st h = zgo 112 (zpure (.iconst 1) 10 0 [] ls st h)) ∧
  (∀ (ls : zL) (st : zS) (h : zH), zx 112 10 ls st h = zgo 112 (zpure (.goto 31) 13 41 [] ls st h)) ∧
  (∀ (ls : zL) (st : zS) (h : zH), zx 112 13 ls st h = zgo 112 (zpure (.aload_n 0) 14 0 [] ls st h)) ∧
  (∀ (ls : zL) (st : zS) (h : zH), zx 112 14 ls st h = zgo 112 (zpure (.getfield 25) 17 0 [6, 5] ls st h)) ∧
  (∀ (ls : zL) (st : zS) (h : zH), zx 112 17 ls st h = zgo 112 (zpure (.iload_n 1) 18 0 [] ls st h)) ∧
  (∀ (ls : zL) (st : zS) (h : zH), zx 112 18 ls st h = zgo 112 (zpure .baload 19 0 [] ls st h)) ∧
  (∀ (ls : zL) (st : zS) (h : zH), zx 112 19 ls st h = zgo 112 (zpure (.ifCond .eq 7) 22 26 [] ls st h)) ∧
  (∀ (ls : zL) (st : zS) (h : zH), zx 112 22 ls st h = zgo 112 (zpure (.iconst 2) 23 0 [] ls st h)) ∧
  (∀ (ls : zL) (st : zS) (h : zH), zx 112 23 ls st h = zgo 112 (zpure (.goto 18) 26 41 [] ls st h)) ∧
  (∀ (ls : zL) (st : zS) (h : zH), zx 112 26 ls st h = zgo 112 (zpure (.iload_n 2) 27 0 [] ls st h)) ∧
  (∀ (ls : zL) (st : zS) (h : zH), zx 112 27 ls st h = zgo 112 (zpure (.iconst 1) 28 0 [] ls st h)) ∧
  (∀ (ls : zL) (st : zS) (h : zH), zx 112 28 ls st h = zgo 112 (zpure (.bipush 99) 30 0 [] ls st h)) ∧
  (∀ (ls : zL) (st : zS) (h : zH), zx 112 30 ls st h = zca 112 30 33 ls 105 3 0 (ztake 3 st) h) ∧
  (∀ (ls : zL) (st : zS) (h : zH), zx 112 33 ls st h = zgo 112 (zpure (.ifCond .ne 7) 36 40 [] ls st h)) ∧
  (∀ (ls : zL) (st : zS) (h : zH), zx 112 36 ls st h = zgo 112 (zpure (.iconst 3) 37 0 [] ls st h)) ∧
  (∀ (ls : zL) (st : zS) (h : zH), zx 112 37 ls st h = zgo 112 (zpure (.goto 4) 40 41 [] ls st h)) ∧
  (∀ (ls : zL) (st : zS) (h : zH), zx 112 40 ls st h = zgo 112 (zpure (.iconst 0) 41 0 [] ls st h)) ∧
  (∀ (ls : zL) (st : zS) (h : zH), zx 112 41 ls st h = zgo 112 (zpure (.putfield 84) 44 0 [6, 32, 0] ls st h)) ∧
  (∀ (ls : zL) (st : zS) (h : zH), zx 112 44 ls st h = zgo 112 (zpure (.aload_n 0) 45 0 [] ls st h)) ∧
  (∀ (ls : zL) (st : zS) (h : zH), zx 112 45 ls st h = zgo 112 (zpure (.getfield 84) 48 0 [6, 32] ls st h)) ∧
  (∀ (ls : zL) (st : zS) (h : zH), zx 112 48 ls st h = zgo 112 (zpure (.ifCond .le 5) 51 53 [] ls st h)) ∧
  (∀ (ls : zL) (st : zS) (h : zH), zx 112 51 ls st h = zgo 112 (zpure (.iconst 0) 52 0 [] ls st h)) ∧
  (∀ (ls : zL) (st : zS) (h : zH), zx 112 52 ls st h = zret 0 st h) ∧
  (∀ (ls : zL) (st : zS) (h : zH), zx 112 53 ls st h = zgo 112 (zpure (.aload_n 0) 54 0 [] ls st h)) ∧
  (∀ (ls : zL) (st : zS) (h : zH), zx 112 54 ls st h = zgo 112 (zpure (.getfield 16) 57 0 [6, 2] ls st h)) ∧
  (∀ (ls : zL) (st : zS) (h : zH), zx 112 57 ls st h = zgo 112 (zpure (.iload_n 1) 58 0 [] ls st h)) ∧
  (∀ (ls : zL) (st : zS) (h : zH), zx 112 58 ls st h = zgo 112 (zpure .dup2 59 0 [] ls st h)) ∧
  (∀ (ls : zL) (st : zS) (h : zH), zx 112 59 ls st h = zgo 112 (zpure .iaload 60 0 [] ls st h)) ∧
  (∀ (ls : zL) (st : zS) (h : zH), zx 112 60 ls st h = zgo 112 (zpure (.iload_n 2) 61 0 [] ls st h)) ∧
  (∀ (ls : zL) (st : zS) (h : zH), zx 112 61 ls st h = zgo 112 (zpure .iadd 62 0 [] ls st h)) ∧
  (∀ (ls : zL) (st : zS) (h : zH), zx 112 62 ls st h = zgo 112 (zpure .iastore 63 0 [] ls st h)) ∧
  (∀ (ls : zL) (st : zS) (h : zH), zx 112 63 ls st h = zgo 112 (zpure (.aload_n 0) 64 0 [] ls st h)) ∧
  (∀ (ls : zL) (st : zS) (h : zH), zx 112 64 ls st h = zgo 112 (zpure (.getfield 16) 67 0 [6, 2] ls st h)) ∧
  (∀ (ls : zL) (st : zS) (h : zH), zx 112 67 ls st h = zgo 112 (zpure (.iload_n 1) 68 0 [] ls st h)) ∧
  (∀ (ls : zL) (st : zS) (h : zH), zx 112 68 ls st h = zgo 112 (zpure .iaload 69 0 [] ls st h)) ∧
  (∀ (ls : zL) (st : zS) (h : zH), zx 112 69 ls st h = zret 0 st h) :=
  ⟨zx_0 rfl, zx_0 rfl, zx_0 rfl, zx_2c rfl, zx_0 rfl, zx_0 rfl, zx_0 rfl, zx_0 rfl, zx_0 rfl, zx_0 rfl, zx_0 rfl, zx_0 rfl, zx_0 rfl, zx_0 rfl, zx_0 rfl, zx_0 rfl, zx_0 rfl, zx_2c rfl, zx_0 rfl, zx_0 rfl, zx_0 rfl, zx_0 rfl, zx_0 rfl, zx_0 rfl, zx_0 rfl, zx_0 rfl, zx_0 rfl, zx_1 rfl, zx_0 rfl, zx_0 rfl, zx_0 rfl, zx_0 rfl, zx_0 rfl, zx_0 rfl, zx_0 rfl, zx_0 rfl, zx_0 rfl, zx_0 rfl, zx_0 rfl, zx_0 rfl, zx_1 rfl⟩
theorem z113_62 : ∀ (ls : zL) (st : zS) (h : zH), zx 113 62 ls st h = zgo 113 (zpure (.iload_n 3) 63 0 [] ls st h) := zx_0 rfl
/-- X6_goes -/
theorem z113 :
  (∀ (ls : zL) (st : zS) (h : zH), zx 113 0 ls st h = zgo 113 (zpure (.aload_n 0) 1 0 [] ls st h)) ∧
  (∀ (ls : zL) (st : zS) (h : zH), zx 113 1 ls st h = zgo 113 (zpure (.getfield 33) 4 0 [6, 9] ls st h)) ∧
  (∀ (ls : zL) (st : zS) (h : zH), zx 113 4 ls st h = zgo 113 (zpure (.iload_n 2) 5 0 [] ls st h)) ∧
  (∀ (ls : zL) (st : zS) (h : zH), zx 113 5 ls st h = zgo 113 (zpure (.aload_n 0) 6 0 [] ls st h)) ∧
  (∀ (ls : zL) (st : zS) (h : zH), zx 113 6 ls st h = zgo 113 (zpure (.getfield 33) 9 0 [6, 9] ls st h)) ∧
  (∀ (ls : zL) (st : zS) (h : zH), zx 113 9 ls st h = zgo 113 (zpure (.iload_n 1) 10 0 [] ls st h)) ∧
  (∀ (ls : zL) (st : zS) (h : zH), zx 113 10 ls st h = zgo 113 (zpure .iaload 11 0 [] ls st h)) ∧
  (∀ (ls : zL) (st : zS) (h : zH), zx 113 11 ls st h = zgo 113 (zpure .iastore 12 0 [] ls st h)) ∧
  (∀ (ls : zL) (st : zS) (h : zH), zx 113 12 ls st h = zgo 113 (zpure (.aload_n 0) 13 0 [] ls st h)) ∧
  (∀ (ls : zL) (st : zS) (h : zH), zx 113 13 ls st h = zgo 113 (zpure (.getfield 36) 16 0 [6, 10] ls st h)) ∧
  (∀ (ls : zL) (st : zS) (h : zH), zx 113 16 ls st h = zgo 113 (zpure (.iload_n 2) 17 0 [] ls st h)) ∧
  (∀ (ls : zL) (st : zS) (h : zH), zx 113 17 ls st h = zgo 113 (zpure (.aload_n 0) 18 0 [] ls st h)) ∧
  (∀ (ls : zL) (st : zS) (h : zH), zx 113 18 ls st h = zgo 113 (zpure (.getfield 36) 21 0 [6, 10] ls st h)) ∧
  (∀ (ls : zL) (st : zS) (h : zH), zx 113 21 ls st h = zgo 113 (zpure (.iload_n 1) 22 0 [] ls st h)) ∧
  (∀ (ls : zL) (st : zS) (h : zH), zx 113 22 ls st h = zgo 113 (zpure .iaload 23 0 [] ls st h)) ∧
  (∀ (ls : zL) (st : zS) (h : zH), zx 113 23 ls st h = zgo 113 (zpure .iastore 24 0 [] ls st h)) ∧
  (∀ (ls : zL) (st : zS) (h : zH), zx 113 24 ls st h = zgo 113 (zpure (.aload_n 0) 25 0 [] ls st h)) ∧
  (∀ (ls : zL) (st : zS) (h : zH), zx 113 25 ls st h = zgo 113 (zpure (.getfield 39) 28 0 [6, 11] ls st h)) ∧
  (∀ (ls : zL) (st : zS) (h : zH), zx 113 28 ls st h = zgo 113 (zpure (.iload_n 2) 29 0 [] ls st h)) ∧
  (∀ (ls : zL) (st : zS) (h : zH), zx 113 29 ls st h = zgo 113 (zpure (.aload_n 0) 30 0 [] ls st h)) ∧
  (∀ (ls : zL) (st : zS) (h : zH), zx 113 30 ls st h = zgo 113 (zpure (.getfield 39) 33 0 [6, 11] ls st h)) ∧
  (∀ (ls : zL) (st : zS) (h : zH), zx 113 33 ls st h = zgo 113 (zpure (.iload_n 1) 34 0 [] ls st h)) ∧
  (∀ (ls : zL) (st : zS) (h : zH), zx 113 34 ls st h = zgo 113 (zpure .iaload 35 0 [] ls st h)) ∧
  (∀ (ls : zL) (st : zS) (h : zH), zx 113 35 ls st h = zgo 113 (zpure .iastore 36 0 [] ls st h)) ∧
  (∀ (ls : zL) (st : zS) (h : zH), zx 113 36 ls st h = zgo 113 (zpure (.aload_n 0) 37 0 [] ls st h)) ∧
  (∀ (ls : zL) (st : zS) (h : zH), zx 113 37 ls st h = zgo 113 (zpure (.getfield 42) 40 0 [6, 12] ls st h)) ∧
  (∀ (ls : zL) (st : zS) (h : zH), zx 113 40 ls st h = zgo 113 (zpure (.iload_n 2) 41 0 [] ls st h)) ∧
  (∀ (ls : zL) (st : zS) (h : zH), zx 113 41 ls st h = zgo 113 (zpure (.aload_n 0) 42 0 [] ls st h)) ∧
  (∀ (ls : zL) (st : zS) (h : zH), zx 113 42 ls st h = zgo 113 (zpure (.getfield 42) 45 0 [6, 12] ls st h)) ∧
  (∀ (ls : zL) (st : zS) (h : zH), zx 113 45 ls st h = zgo 113 (zpure (.iload_n 1) 46 0 [] ls st h)) ∧
  (∀ (ls : zL) (st : zS) (h : zH), zx 113 46 ls st h = zgo 113 (zpure .caload 47 0 [] ls st h)) ∧
  (∀ (ls : zL) (st : zS) (h : zH), zx 113 47 ls st h = zgo 113 (zpure .castore 48 0 [] ls st h)) ∧
  (∀ (ls : zL) (st : zS) (h : zH), zx 113 48 ls st h = zgo 113 (zpure (.aload_n 0) 49 0 [] ls st h)) ∧
  (∀ (ls : zL) (st : zS) (h : zH), zx 113 49 ls st h = zgo 113 (zpure (.getfield 51) 52 0 [6, 14] ls st h)) ∧
  (∀ (ls : zL) (st : zS) (h : zH), zx 113 52 ls st h = zgo 113 (zpure (.iload_n 2) 53 0 [] ls st h)) ∧
  (∀ (ls : zL) (st : zS) (h : zH), zx 113 53 ls st h = zgo 113 (zpure (.aload_n 0) 54 0 [] ls st h)) ∧
  (∀ (ls : zL) (st : zS) (h : zH), zx 113 54 ls st h = zgo 113 (zpure (.getfield 51) 57 0 [6, 14] ls st h)) ∧
  (∀ (ls : zL) (st : zS) (h : zH), zx 113 57 ls st h = zgo 113 (zpure (.iload_n 1) 58 0 [] ls st h)) ∧
  (∀ (ls : zL) (st : zS) (h : zH), zx 113 58 ls st h = zgo 113 (zpure .iaload 59 0 [] ls st h)) ∧
  (∀ (ls : zL) (st : zS) (h : zH), zx 113 59 ls st h = zgo 113 (zpure .iastore 60 0 [] ls st h)) ∧
  (∀ (ls : zL) (st : zS) (h : zH), zx 113 60 ls st h = zgo 113 (zpure (.iconst 0) 61 0 [] ls st h)) ∧
  (∀ (ls : zL) (st : zS) (h : zH), zx 113 61 ls st h = zgo 113 (zpure (.istore_n 3) 62 0 [] ls st h)) ∧
  (∀ (ls : zL) (st : zS) (h : zH), zx 113 63 ls st h = zgo 113 (zpure (.bipush 9) 65 0 [] ls st h)) ∧
  (∀ (ls : zL) (st : zS) (h : zH), zx 113 65 ls st h = zgo 113 (zpure (.if_icmp .ge 25) 68 90 [] ls st h)) ∧
  (∀ (ls : zL) (st : zS) (h : zH), zx 113 68 ls st h = zgo 113 (zpure (.aload_n 0) 69 0 [] ls st h)) ∧
  (∀ (ls : zL) (st : zS) (h : zH), zx 113 69 ls st h = zgo 113 (zpure (.getfield 48) 72 0 [6, 13] ls st h)) ∧
  (∀ (ls : zL) (st : zS) (h : zH), zx 113 72 ls st h = zgo 113 (zpure (.iload_n 2) 73 0 [] ls st h)) ∧
  (∀ (ls : zL) (st : zS) (h : zH), zx 113 73 ls st h = zgo 113 (zpure .aaload 74 0 [] ls st h)) ∧
  (∀ (ls : zL) (st : zS) (h : zH), zx 113 74 ls st h = zgo 113 (zpure (.iload_n 3) 75 0 [] ls st h)) ∧
  (∀ (ls : zL) (st : zS) (h : zH), zx 113 75 ls st h = zgo 113 (zpure (.aload_n 0) 76 0 [] ls st h)) ∧
  (∀ (ls : zL) (st : zS) (h : zH), zx 113 76 ls st h = zgo 113 (zpure (.getfield 48) 79 0 [6, 13] ls st h)) ∧
  (∀ (ls : zL) (st : zS) (h : zH), zx 113 79 ls st h = zgo 113 (zpure (.iload_n 1) 80 0 [] ls st h)) ∧
  (∀ (ls : zL) (st : zS) (h : zH), zx 113 80 ls st h = zgo 113 (zpure .aaload 81 0 [] ls st h)) ∧
  (∀ (ls : zL) (st : zS) (h : zH), zx 113 81 ls st h = zgo 113 (zpure (.iload_n 3) 82 0 [] ls st h)) ∧
  (∀ (ls : zL) (st : zS) (h : zH), zx 113 82 ls st h = zgo 113 (zpure .iaload 83 0 [] ls st h)) ∧
  (∀ (ls : zL) (st : zS) (h : zH), zx 113 83 ls st h = zgo 113 (zpure .iastore 84 0 [] ls st h)) ∧
  (∀ (ls : zL) (st : zS) (h : zH), zx 113 84 ls st h = zgo 113 (zpure (.iinc 3 1) 87 0 [] ls st h)) ∧
  (∀ (ls : zL) (st : zS) (h : zH), zx 113 87 ls st h = zgo 113 (zpure (.goto (-25)) 90 62 [] ls st h)) ∧
  (∀ (ls : zL) (st : zS) (h : zH), zx 113 90 ls st h = zret 8 st h) :=
  ⟨zx_0 rfl, zx_0 rfl, zx_0 rfl, zx_0 rfl, zx_0 rfl, zx_0 rfl, zx_0 rfl, zx_0 rfl, zx_0 rfl, zx_0 rfl, zx_0 rfl, zx_0 rfl, zx_0 rfl, zx_0 rfl, zx_0 rfl, zx_0 rfl, zx_0 rfl, zx_0 rfl, zx_0 rfl, zx_0 rfl, zx_0 rfl, zx_0 rfl, zx_0 rfl, zx_0 rfl, zx_0 rfl, zx_0 rfl, zx_0 rfl, zx_0 rfl, zx_0 rfl, zx_0 rfl, zx_0 rfl, zx_0 rfl, zx_0 rfl, zx_0 rfl, zx_0 rfl, zx_0 rfl, zx_0 rfl, zx_0 rfl, zx_0 rfl, zx_0 rfl, zx_0 rfl, zx_0 rfl, zx_0 rfl, zx_0 rfl, zx_0 rfl, zx_0 rfl, zx_0 rfl, zx_0 rfl, zx_0 rfl, zx_0 rfl, zx_0 rfl, zx_0 rfl, zx_0 rfl, zx_0 rfl, zx_0 rfl, zx_0 rfl, zx_0 rfl, zx_0 rfl, zx_1 rfl⟩
/-- X6_isEvent -/
theorem z114 :
  (∀ (ls : zL) (st : zS) (h : zH), zx 114 0 ls st h = zgo 114 (zpure (.iload_n 1) 1 0 [] ls st h)) ∧
  (∀ (ls : zL) (st : zS) (h : zH), zx 114 1 ls st h = zgo 114 (zpure (.iconst 0) 2 0 [] ls st h)) ∧
  (∀ (ls : zL) (st : zS) (h : zH), zx 114 2 ls st h = zgo 114 (zpure (.aload_n 0) 3 0 [] ls st h)) ∧
  (∀ (ls : zL) (st : zS) (h : zH), zx 114 3 ls st h = zgo 114 (zpure (.getfield 109) 6 0 [6, 15] ls st h)) ∧
  (∀ (ls : zL) (st : zS) (h : zH), zx 114 6 ls st h = zgo 114 (zpure (.iconst 1) 7 0 [] ls st h)) ∧
  (∀ (ls : zL) (st : zS) (h : zH), zx 114 7 ls st h = zgo 114 (zpure .isub 8 0 [] ls st h)) ∧
  (∀ (ls : zL) (st : zS) (h : zH), zx 114 8 ls st h = zca 114 8 11 ls 105 3 0 (ztake 3 st) h) ∧
  (∀ (ls : zL) (st : zS) (h : zH), zx 114 11 ls st h = zret 1 st h) :=
  ⟨zx_0 rfl, zx_0 rfl, zx_0 rfl, zx_0 rfl, zx_0 rfl, zx_0 rfl, zx_2c rfl, zx_1 rfl⟩
theorem z115_122 : ∀ (ls : zL) (st : zS) (h : zH), zx 115 122 ls st h = zgo 115 (zpure (.iload 6) 124 0 [] ls st h) := zx_0 rfl
/-- X6_insert -/
theorem z115 :
  (∀ (ls : zL) (st : zS) (h : zH), zx 115 0 ls st h = zgo 115 (zpure (.iload_n 3) 1 0 [] ls st h)) ∧
  (∀ (ls : zL) (st : zS) (h : zH), zx 115 1 ls st h = zgo 115 (zpure (.bipush 102) 3 0 [] ls st h)) ∧
  (∀ (ls : zL) (st : zS) (h : zH), zx 115 3 ls st h = zgo 115 (zpure (.if_icmp .eq 33) 6 36 [] ls st h)) ∧
  (∀ (ls : zL) (st : zS) (h : zH), zx 115 6 ls st h = zgo 115 (zpure (.iload_n 3) 7 0 [] ls st h)) ∧
  (∀ (ls : zL) (st : zS) (h : zH), zx 115 7 ls st h = zgo 115 (zpure (.bipush 99) 9 0 [] ls st h)) ∧
  (∀ (ls : zL) (st : zS) (h : zH), zx 115 9 ls st h = zgo 115 (zpure (.if_icmp .eq 15) 12 24 [] ls st h)) ∧
  (∀ (ls : zL) (st : zS) (h : zH), zx 115 12 ls st h = zgo 115 (zpure (.iload_n 3) 13 0 [] ls st h)) ∧
  (∀ (ls : zL) (st : zS) (h : zH), zx 115 13 ls st h = zgo 115 (zpure (.bipush 112) 15 0 [] ls st h)) ∧
  (∀ (ls : zL) (st : zS) (h : zH), zx 115 15 ls st h = zgo 115 (zpure (.if_icmp .eq 9) 18 24 [] ls st h)) ∧
  (∀ (ls : zL) (st : zS) (h : zH), zx 115 18 ls st h = zgo 115 (zpure (.iload_n 3) 19 0 [] ls st h)) ∧
  (∀ (ls : zL) (st : zS) (h : zH), zx 115 19 ls st h = zgo 115 (zpure (.bipush 106) 21 0 [] ls st h)) ∧
  (∀ (ls : zL) (st : zS) (h : zH), zx 115 21 ls st h = zgo 115 (zpure (.if_icmp .ne 19) 24 40 [] ls st h)) ∧
  (∀ (ls : zL) (st : zS) (h : zH), zx 115 24 ls st h = zgo 115 (zpure (.iload 4) 26 0 [] ls st h)) ∧
  (∀ (ls : zL) (st : zS) (h : zH), zx 115 26 ls st h = zgo 115 (zpure (.iconst 0) 27 0 [] ls st h)) ∧
  (∀ (ls : zL) (st : zS) (h : zH), zx 115 27 ls st h = zgo 115 (zpure (.sipush 3599) 30 0 [] ls st h)) ∧
  (∀ (ls : zL) (st : zS) (h : zH), zx 115 30 ls st h = zca 115 30 33 ls 105 3 0 (ztake 3 st) h) ∧
  (∀ (ls : zL) (st : zS) (h : zH), zx 115 33 ls st h = zgo 115 (zpure (.ifCond .eq 7) 36 40 [] ls st h)) ∧
  (∀ (ls : zL) (st : zS) (h : zH), zx 115 36 ls st h = zgo 115 (zpure (.iconst 1) 37 0 [] ls st h)) ∧
  (∀ (ls : zL) (st : zS) (h : zH), zx 115 37 ls st h = zgo 115 (zpure (.goto 4) 40 41 [] ls st h)) ∧
  (∀ (ls : zL) (st : zS) (h : zH), zx 115 40 ls st h = zgo 115 (zpure (.iconst 0) 41 0 [] ls st h)) ∧
  (∀ (ls : zL) (st : zS) (h : zH), zx 115 41 ls st h = zgo 115 (zpure (.istore 5) 43 0 [] ls st h)) ∧
  (∀ (ls : zL) (st : zS) (h : zH), zx 115 43 ls st h = zgo 115 (zpure (.aload_n 0) 44 0 [] ls st h)) ∧
  (∀ (ls : zL) (st : zS) (h : zH), zx 115 44 ls st h = zgo 115 (zpure (.aload_n 0) 45 0 [] ls st h)) ∧
  (∀ (ls : zL) (st : zS) (h : zH), zx 115 45 ls st h = zgo 115 (zpure (.iload_n 2) 46 0 [] ls st h)) ∧
  (∀ (ls : zL) (st : zS) (h : zH), zx 115 46 ls st h = zca 115 46 49 ls 110 2 7 (ztake 2 st) h) ∧
  (∀ (ls : zL) (st : zS) (h : zH), zx 115 49 ls st h = zgo 115 (zpure (.ifCond .eq 15) 52 64 [] ls st h)) ∧
  (∀ (ls : zL) (st : zS) (h : zH), zx 115 52 ls st h = zgo 115 (zpure (.iload_n 1) 53 0 [] ls st h)) ∧
  (∀ (ls : zL) (st : zS) (h : zH), zx 115 53 ls st h = zgo 115 (zpure (.iconst 0) 54 0 [] ls st h)) ∧
  (∀ (ls : zL) (st : zS) (h : zH), zx 115 54 ls st h = zgo 115 (zpure (.aload_n 0) 55 0 [] ls st h)) ∧
  (∀ (ls : zL) (st : zS) (h : zH), zx 115 55 ls st h = zgo 115 (zpure (.getfield 109) 58 0 [6, 15] ls st h)) ∧
  (∀ (ls : zL) (st : zS) (h : zH), zx 115 58 ls st h = zca 115 58 61 ls 105 3 0 (ztake 3 st) h) ∧
  (∀ (ls : zL) (st : zS) (h : zH), zx 115 61 ls st h = zgo 115 (zpure (.ifCond .ne 7) 64 68 [] ls st h)) ∧
  (∀ (ls : zL) (st : zS) (h : zH), zx 115 64 ls st h = zgo 115 (zpure (.iconst 1) 65 0 [] ls st h)) ∧
  (∀ (ls : zL) (st : zS) (h : zH), zx 115 65 ls st h = zgo 115 (zpure (.goto 39) 68 104 [] ls st h)) ∧
  (∀ (ls : zL) (st : zS) (h : zH), zx 115 68 ls st h = zgo 115 (zpure (.aload_n 0) 69 0 [] ls st h)) ∧
  (∀ (ls : zL) (st : zS) (h : zH), zx 115 69 ls st h = zgo 115 (zpure (.getfield 25) 72 0 [6, 5] ls st h)) ∧
  (∀ (ls : zL) (st : zS) (h : zH), zx 115 72 ls st h = zgo 115 (zpure (.iload_n 2) 73 0 [] ls st h)) ∧
  (∀ (ls : zL) (st : zS) (h : zH), zx 115 73 ls st h = zgo 115 (zpure .baload 74 0 [] ls st h)) ∧
  (∀ (ls : zL) (st : zS) (h : zH), zx 115 74 ls st h = zgo 115 (zpure (.ifCond .eq 7) 77 81 [] ls st h)) ∧
  (∀ (ls : zL) (st : zS) (h : zH), zx 115 77 ls st h = zgo 115 (zpure (.iconst 2) 78 0 [] ls st h)) ∧
  (∀ (ls : zL) (st : zS) (h : zH), zx 115 78 ls st h = zgo 115 (zpure (.goto 26) 81 104 [] ls st h)) ∧
  (∀ (ls : zL) (st : zS) (h : zH), zx 115 81 ls st h = zgo 115 (zpure (.iload 5) 83 0 [] ls st h)) ∧
  (∀ (ls : zL) (st : zS) (h : zH), zx 115 83 ls st h = zgo 115 (zpure (.ifCond .ne 7) 86 90 [] ls st h)) ∧
  (∀ (ls : zL) (st : zS) (h : zH), zx 115 86 ls st h = zgo 115 (zpure (.iconst 3) 87 0 [] ls st h)) ∧
  (∀ (ls : zL) (st : zS) (h : zH), zx 115 87 ls st h = zgo 115 (zpure (.goto 17) 90 104 [] ls st h)) ∧
  (∀ (ls : zL) (st : zS) (h : zH), zx 115 90 ls st h = zgo 115 (zpure (.aload_n 0) 91 0 [] ls st h)) ∧
  (∀ (ls : zL) (st : zS) (h : zH), zx 115 91 ls st h = zgo 115 (zpure (.getfield 109) 94 0 [6, 15] ls st h)) ∧
  (∀ (ls : zL) (st : zS) (h : zH), zx 115 94 ls st h = zgo 115 (zpure (.bipush 12) 96 0 [] ls st h)) ∧
  (∀ (ls : zL) (st : zS) (h : zH), zx 115 96 ls st h = zgo 115 (zpure (.if_icmp .ne 7) 99 103 [] ls st h)) ∧
  (∀ (ls : zL) (st : zS) (h : zH), zx 115 99 ls st h = zgo 115 (zpure (.iconst 4) 100 0 [] ls st h)) ∧
  (∀ (ls : zL) (st : zS) (h : zH), zx 115 100 ls st h = zgo 115 (zpure (.goto 4) 103 104 [] ls st h)) ∧
  (∀ (ls : zL) (st : zS) (h : zH), zx 115 103 ls st h = zgo 115 (zpure (.iconst 0) 104 0 [] ls st h)) ∧
  (∀ (ls : zL) (st : zS) (h : zH), zx 115 104 ls st h = zgo 115 (zpure (.putfield 84) 107 0 [6, 32, 0] ls st h)) ∧
  (∀ (ls : zL) (st : zS) (h : zH), zx 115 107 ls st h = zgo 115 (zpure (.aload_n 0) 108 0 [] ls st h)) ∧
  (∀ (ls : zL) (st : zS) (h : zH), zx 115 108 ls st h = zgo 115 (zpure (.getfield 84) 111 0 [6, 32] ls st h)) ∧
  (∀ (ls : zL) (st : zS) (h : zH), zx 115 111 ls st h = zgo 115 (zpure (.ifCond .le 5) 114 116 [] ls st h)) ∧
  (∀ (ls : zL) (st : zS) (h : zH), zx 115 114 ls st h = zgo 115 (zpure (.iconst 0) 115 0 [] ls st h)) ∧
  (∀ (ls : zL) (st : zS) (h : zH), zx 115 115 ls st h = zret 0 st h) ∧
  (∀ (ls : zL) (st : zS) (h : zH), zx 115 116 ls st h = zgo 115 (zpure (.aload_n 0) 117 0 [] ls st h)) ∧
  (∀ (ls : zL) (st : zS) (h : zH), zx 115 117 ls st h = zgo 115 (zpure (.getfield 109) 120 0 [6, 15] ls st h)) ∧
  (∀ (ls : zL) (st : zS) (h : zH), zx 115 120 ls st h = zgo 115 (zpure (.istore 6) 122 0 [] ls st h)) ∧
  (∀ (ls : zL) (st : zS) (h : zH), zx 115 124 ls st h = zgo 115 (zpure (.iload_n 1) 125 0 [] ls st h)) ∧
  (∀ (ls : zL) (st : zS) (h : zH), zx 115 125 ls st h = zgo 115 (zpure (.if_icmp .le 19) 128 144 [] ls st h)) ∧
  (∀ (ls : zL) (st : zS) (h : zH), zx 115 128 ls st h = zgo 115 (zpure (.aload_n 0) 129 0 [] ls st h)) ∧
  (∀ (ls : zL) (st : zS) (h : zH), zx 115 129 ls st h = zgo 115 (zpure (.iload 6) 131 0 [] ls st h)) ∧
  (∀ (ls : zL) (st : zS) (h : zH), zx 115 131 ls st h = zgo 115 (zpure (.iconst 1) 132 0 [] ls st h)) ∧
  (∀ (ls : zL) (st : zS) (h : zH), zx 115 132 ls st h = zgo 115 (zpure .isub 133 0 [] ls st h)) ∧
  (∀ (ls : zL) (st : zS) (h : zH), zx 115 133 ls st h = zgo 115 (zpure (.iload 6) 135 0 [] ls st h)) ∧
  (∀ (ls : zL) (st : zS) (h : zH), zx 115 135 ls st h = zca 115 135 138 ls 113 4 7 (ztake 3 st) h) ∧
  (∀ (ls : zL) (st : zS) (h : zH), zx 115 138 ls st h = zgo 115 (zpure (.iinc 6 (-1)) 141 0 [] ls st h)) ∧
  (∀ (ls : zL) (st : zS) (h : zH), zx 115 141 ls st h = zgo 115 (zpure (.goto (-19)) 144 122 [] ls st h)) ∧
  (∀ (ls : zL) (st : zS) (h : zH), zx 115 144 ls st h = zgo 115 (zpure (.aload_n 0) 145 0 [] ls st h)) ∧
  (∀ (ls : zL) (st : zS) (h : zH), zx 115 145 ls st h = zgo 115 (zpure (.getfield 33) 148 0 [6, 9] ls st h)) ∧
  (∀ (ls : zL) (st : zS) (h : zH), zx 115 148 ls st h = zgo 115 (zpure (.iload_n 1) 149 0 [] ls st h)) ∧
  (∀ (ls : zL) (st : zS) (h : zH), zx 115 149 ls st h = zgo 115 (zpure (.iload_n 2) 150 0 [] ls st h)) ∧
  (∀ (ls : zL) (st : zS) (h : zH), zx 115 150 ls st h = zgo 115 (zpure .iastore 151 0 [] ls st h)) ∧
  (∀ (ls : zL) (st : zS) (h : zH), zx 115 151 ls st h = zgo 115 (zpure (.aload_n 0) 152 0 [] ls st h)) ∧
  (∀ (ls : zL) (st : zS) (h : zH), zx 115 152 ls st h = zgo 115 (zpure (.getfield 36) 155 0 [6, 10] ls st h)) ∧
  (∀ (ls : zL) (st : zS) (h : zH), zx 115 155 ls st h = zgo 115 (zpure (.iload_n 1) 156 0 [] ls st h)) ∧
  (∀ (ls : zL) (st : zS) (h : zH), zx 115 156 ls st h = zgo 115 (zpure (.iload 4) 158 0 [] ls st h)) ∧
  (∀ (ls : zL) (st : zS) (h : zH), zx 115 158 ls st h = zgo 115 (zpure .iastore 159 0 [] ls st h)) ∧
  (∀ (ls : zL) (st : zS) (h : zH), zx 115 159 ls st h = zgo 115 (zpure (.aload_n 0) 160 0 [] ls st h)) ∧
  (∀ (ls : zL) (st : zS) (h : zH), zx 115 160 ls st h = zgo 115 (zpure (.getfield 39) 163 0 [6, 11] ls st h)) ∧
  (∀ (ls : zL) (st : zS) (h : zH), zx 115 163 ls st h = zgo 115 (zpure (.iload_n 1) 164 0 [] ls st h)) ∧
  (∀ (ls : zL) (st : zS) (h : zH), zx 115 164 ls st h = zgo 115 (zpure (.iconst 0) 165 0 [] ls st h)) ∧
  (∀ (ls : zL) (st : zS) (h : zH), zx 115 165 ls st h = zgo 115 (zpure .iastore 166 0 [] ls st h)) ∧
  (∀ (ls : zL) (st : zS) (h : zH), zx 115 166 ls st h = zgo 115 (zpure (.aload_n 0) 167 0 [] ls st h)) ∧
  (∀ (ls : zL) (st : zS) (h : zH), zx 115 167 ls st h = zgo 115 (zpure (.getfield 42) 170 0 [6, 12] ls st h)) ∧
  (∀ (ls : zL) (st : zS) (h : zH), zx 115 170 ls st h = zgo 115 (zpure (.iload_n 1) 171 0 [] ls st h)) ∧
  (∀ (ls : zL) (st : zS) (h : zH), zx 115 171 ls st h = zgo 115 (zpure (.iload_n 3) 172 0 [] ls st h)) ∧
  (∀ (ls : zL) (st : zS) (h : zH), zx 115 172 ls st h = zgo 115 (zpure .castore 173 0 [] ls st h)) ∧
  (∀ (ls : zL) (st : zS) (h : zH), zx 115 173 ls st h = zgo 115 (zpure (.aload_n 0) 174 0 [] ls st h)) ∧
  (∀ (ls : zL) (st : zS) (h : zH), zx 115 174 ls st h = zgo 115 (zpure (.getfield 51) 177 0 [6, 14] ls st h)) ∧
  (∀ (ls : zL) (st : zS) (h : zH), zx 115 177 ls st h = zgo 115 (zpure (.iload_n 1) 178 0 [] ls st h)) ∧
  (∀ (ls : zL) (st : zS) (h : zH), zx 115 178 ls st h = zgo 115 (zpure (.iconst 0) 179 0 [] ls st h)) ∧
  (∀ (ls : zL) (st : zS) (h : zH), zx 115 179 ls st h = zgo 115 (zpure .iastore 180 0 [] ls st h)) ∧
  (∀ (ls : zL) (st : zS) (h : zH), zx 115 180 ls st h = zgo 115 (zpure (.aload_n 0) 181 0 [] ls st h)) ∧
  (∀ (ls : zL) (st : zS) (h : zH), zx 115 181 ls st h = zgo 115 (zpure .dup 182 0 [] ls st h)) ∧
  (∀ (ls : zL) (st : zS) (h : zH), zx 115 182 ls st h = zgo 115 (zpure (.getfield 109) 185 0 [6, 15] ls st h)) ∧
  (∀ (ls : zL) (st : zS) (h : zH), zx 115 185 ls st h = zgo 115 (zpure (.iconst 1) 186 0 [] ls st h)) ∧
  (∀ (ls : zL) (st : zS) (h : zH), zx 115 186 ls st h = zgo 115 (zpure .iadd 187 0 [] ls st h)) ∧
  (∀ (ls : zL) (st : zS) (h : zH), zx 115 187 ls st h = zgo 115 (zpure (.putfield 109) 190 0 [6, 15, 0] ls st h)) ∧
  (∀ (ls : zL) (st : zS) (h : zH), zx 115 190 ls st h = zgo 115 (zpure (.aload_n 0) 191 0 [] ls st h)) ∧
  (∀ (ls : zL) (st : zS) (h : zH), zx 115 191 ls st h = zgo 115 (zpure (.getfield 109) 194 0 [6, 15] ls st h)) ∧
  (∀ (ls : zL) (st : zS) (h : zH), zx 115 194 ls st h = zret 0 st h) :=
  ⟨zx_0 rfl, zx_0 rfl, zx_0 rfl, zx_0 rfl, zx_0 rfl, zx_0 rfl, zx_0 rfl, zx_0 rfl, zx_0 rfl, zx_0 rfl, zx_0 rfl, zx_0 rfl, zx_0 rfl, zx_0 rfl, zx_0 rfl, zx_2c rfl, zx_0 rfl, zx_0 rfl, zx_0 rfl, zx_0 rfl, zx_0 rfl, zx_0 rfl, zx_0 rfl, zx_0 rfl, zx_2c rfl, zx_0 rfl, zx_0 rfl, zx_0 rfl, zx_0 rfl, zx_0 rfl, zx_2c rfl, zx_0 rfl, zx_0 rfl, zx_0 rfl, zx_0 rfl, zx_0 rfl, zx_0 rfl, zx_0 rfl, zx_0 rfl, zx_0 rfl, zx_0 rfl, zx_0 rfl, zx_0 rfl, zx_0 rfl, zx_0 rfl, zx_0 rfl, zx_0 rfl, zx_0 rfl, zx_0 rfl, zx_0 rfl, zx_0 rfl, zx_0 rfl, zx_0 rfl, zx_0 rfl, zx_0 rfl, zx_0 rfl, zx_0 rfl, zx_1 rfl, zx_0 rfl, zx_0 rfl, zx_0 rfl, zx_0 rfl, zx_0 rfl, zx_0 rfl, zx_0 rfl, zx_0 rfl, zx_0 rfl, zx_0 rfl, zx_2c rfl, zx_0 rfl, zx_0 rfl, zx_0 rfl, zx_0 rfl, zx_0 rfl, zx_0 rfl, zx_0 rfl, zx_0 rfl, zx_0 rfl, zx_0 rfl, zx_0 rfl, zx_0 rfl, zx_0 rfl, zx_0 rfl, zx_0 rfl, zx_0 rfl, zx_0 rfl, zx_0 rfl, zx_0 rfl, zx_0 rfl, zx_0 rfl, zx_0 rfl, zx_0 rfl, zx_0 rfl, zx_0 rfl, zx_0 rfl, zx_0 rfl, zx_0 rfl, zx_0 rfl, zx_0 rfl, zx_0 rfl, zx_0 rfl, zx_0 rfl, zx_0 rfl, zx_0 rfl, zx_1 rfl⟩
theorem z116_38 : ∀ (ls : zL) (st : zS) (h : zH), zx 116 38 ls st h = zgo 116 (zpure (.iload_n 2) 39 0 [] ls st h) := zx_0 rfl
/-- X6_remove -/
theorem z116 :
  (∀ (ls : zL) (st : zS) (h : zH), zx 116 0 ls st h = zgo 116 (zpure (.aload_n 0) 1 0 [] ls st h)) ∧
  (∀ (ls : zL) (st : zS) (h : zH), zx 116 1 ls st h = zgo 116 (zpure (.aload_n 0) 2 0 [] ls st h)) ∧
  (∀ (ls : zL) (st : zS) (h : zH), zx 116 2 ls st h = zgo 116 (zpure (.iload_n 1) 3 0 [] ls st h)) ∧
  (∀ (ls : zL) (st : zS) (h : zH), zx 116 3 ls st h = zca 116 3 6 ls 114 2 7 (ztake 2 st) h) ∧
  (∀ (ls : zL) (st : zS) (h : zH), zx 116 6 ls st h = zgo 116 (zpure (.ifCond .eq 7) 9 13 [] ls st h)) ∧
  (∀ (ls : zL) (st : zS) (h : zH), zx 116 9 ls st h = zgo 116 (zpure (.iconst 0) 10 0 [] ls st h)) ∧
  (∀ (ls : zL) (st : zS) (h : zH), zx 116 10 ls st h = zgo 116 (zpure (.goto 4) 13 14 [] ls st h)) ∧
  (∀ (ls : zL) (st : zS) (h : zH), zx 116 13 ls st h = zgo 116 (zpure (.iconst 1) 14 0 [] ls st h)) ∧
  (∀ (ls : zL) (st : zS) (h : zH), zx 116 14 ls st h = zgo 116 (zpure (.putfield 84) 17 0 [6, 32, 0] ls st h)) ∧
  (∀ (ls : zL) (st : zS) (h : zH), zx 116 17 ls st h = zgo 116 (zpure (.aload_n 0) 18 0 [] ls st h)) ∧
  (∀ (ls : zL) (st : zS) (h : zH), zx 116 18 ls st h = zgo 116 (zpure (.getfield 84) 21 0 [6, 32] ls st h)) ∧
  (∀ (ls : zL) (st : zS) (h : zH), zx 116 21 ls st h = zgo 116 (zpure (.ifCond .le 5) 24 26 [] ls st h)) ∧
  (∀ (ls : zL) (st : zS) (h : zH), zx 116 24 ls st h = zgo 116 (zpure (.iconst 0) 25 0 [] ls st h)) ∧
  (∀ (ls : zL) (st : zS) (h : zH), zx 116 25 ls st h = zret 0 st h) ∧
  (∀ (ls : zL) (st : zS) (h : zH), zx 116 26 ls st h = zgo 116 (zpure (.aload_n 0) 27 0 [] ls st h)) ∧
  (∀ (ls : zL) (st : zS) (h : zH), zx 116 27 ls st h = zgo 116 (zpure .dup 28 0 [] ls st h)) ∧
  (∀ (ls : zL) (st : zS) (h : zH), zx 116 28 ls st h = zgo 116 (zpure (.getfield 109) 31 0 [6, 15] ls st h)) ∧
  (∀ (ls : zL) (st : zS) (h : zH), zx 116 31 ls st h = zgo 116 (zpure (.iconst 1) 32 0 [] ls st h)) ∧
  (∀ (ls : zL) (st : zS) (h : zH), zx 116 32 ls st h = zgo 116 (zpure .isub 33 0 [] ls st h)) ∧
  (∀ (ls : zL) (st : zS) (h : zH), zx 116 33 ls st h = zgo 116 (zpure (.putfield 109) 36 0 [6, 15, 0] ls st h)) ∧
  (∀ (ls : zL) (st : zS) (h : zH), zx 116 36 ls st h = zgo 116 (zpure (.iload_n 1) 37 0 [] ls st h)) ∧
  (∀ (ls : zL) (st : zS) (h : zH), zx 116 37 ls st h = zgo 116 (zpure (.istore_n 2) 38 0 [] ls st h)) ∧
  (∀ (ls : zL) (st : zS) (h : zH), zx 116 39 ls st h = zgo 116 (zpure (.aload_n 0) 40 0 [] ls st h)) ∧
  (∀ (ls : zL) (st : zS) (h : zH), zx 116 40 ls st h = zgo 116 (zpure (.getfield 109) 43 0 [6, 15] ls st h)) ∧
  (∀ (ls : zL) (st : zS) (h : zH), zx 116 43 ls st h = zgo 116 (zpure (.if_icmp .ge 17) 46 60 [] ls st h)) ∧
  (∀ (ls : zL) (st : zS) (h : zH), zx 116 46 ls st h = zgo 116 (zpure (.aload_n 0) 47 0 [] ls st h)) ∧
  (∀ (ls : zL) (st : zS) (h : zH), zx 116 47 ls st h = zgo 116 (zpure (.iload_n 2) 48 0 [] ls st h)) ∧
  (∀ (ls : zL) (st : zS) (h : zH), zx 116 48 ls st h = zgo 116 (zpure (.iconst 1) 49 0 [] ls st h)) ∧
  (∀ (ls : zL) (st : zS) (h : zH), zx 116 49 ls st h = zgo 116 (zpure .iadd 50 0 [] ls st h)) ∧
  (∀ (ls : zL) (st : zS) (h : zH), zx 116 50 ls st h = zgo 116 (zpure (.iload_n 2) 51 0 [] ls st h)) ∧
  (∀ (ls : zL) (st : zS) (h : zH), zx 116 51 ls st h = zca 116 51 54 ls 113 4 7 (ztake 3 st) h) ∧
  (∀ (ls : zL) (st : zS) (h : zH), zx 116 54 ls st h = zgo 116 (zpure (.iinc 2 1) 57 0 [] ls st h)) ∧
  (∀ (ls : zL) (st : zS) (h : zH), zx 116 57 ls st h = zgo 116 (zpure (.goto (-19)) 60 38 [] ls st h)) ∧
  (∀ (ls : zL) (st : zS) (h : zH), zx 116 60 ls st h = zgo 116 (zpure (.aload_n 0) 61 0 [] ls st h)) ∧
  (∀ (ls : zL) (st : zS) (h : zH), zx 116 61 ls st h = zgo 116 (zpure (.getfield 109) 64 0 [6, 15] ls st h)) ∧
  (∀ (ls : zL) (st : zS) (h : zH), zx 116 64 ls st h = zret 0 st h) :=
  ⟨zx_0 rfl, zx_0 rfl, zx_0 rfl, zx_2c rfl, zx_0 rfl, zx_0 rfl, zx_0 rfl, zx_0 rfl, zx_0 rfl, zx_0 rfl, zx_0 rfl, zx_0 rfl, zx_0 rfl, zx_1 rfl, zx_0 rfl, zx_0 rfl, zx_0 rfl, zx_0 rfl, zx_0 rfl, zx_0 rfl, zx_0 rfl, zx_0 rfl, zx_0 rfl, zx_0 rfl, zx_0 rfl, zx_0 rfl, zx_0 rfl, zx_0 rfl, zx_0 rfl, zx_0 rfl, zx_2c rfl, zx_0 rfl, zx_0 rfl, zx_0 rfl, zx_0 rfl, zx_1 rfl⟩
theorem z117_92 : ∀ (ls : zL) (st : zS) (h : zH), zx 117 92 ls st h = zgo 117 (zpure (.iload 5) 94 0 [] ls st h) := zx_0 rfl
theorem z117_134 : ∀ (ls : zL) (st : zS) (h : zH), zx 117 134 ls st h = zgo 117 (zpure (.iload 6) 136 0 [] ls st h) := zx_0 rfl
theorem z117_210 : ∀ (ls : zL) (st : zS) (h : zH), zx 117 210 ls st h = zgo 117 (zpure (.iload 6) 212 0 [] ls st h) := zx_0 rfl
set_option maxRecDepth 4000 in
theorem z117_b0 :
  (∀ (ls : zL) (st : zS) (h : zH), zx 117 0 ls st h = zgo 117 (zpure (.aload_n 0) 1 0 [] ls st h)) ∧
  (∀ (ls : zL) (st : zS) (h : zH), zx 117 1 ls st h = zgo 117 (zpure (.aload_n 0) 2 0 [] ls st h)) ∧
  (∀ (ls : zL) (st : zS) (h : zH), zx 117 2 ls st h = zgo 117 (zpure (.iload_n 1) 3 0 [] ls st h)) ∧
  (∀ (ls : zL) (st : zS) (h : zH), zx 117 3 ls st h = zca 117 3 6 ls 114 2 7 (ztake 2 st) h) ∧
  (∀ (ls : zL) (st : zS) (h : zH), zx 117 6 ls st h = zgo 117 (zpure (.ifCond .eq 15) 9 21 [] ls st h)) ∧
  (∀ (ls : zL) (st : zS) (h : zH), zx 117 9 ls st h = zgo 117 (zpure (.aload_n 0) 10 0 [] ls st h)) ∧
  (∀ (ls : zL) (st : zS) (h : zH), zx 117 10 ls st h = zgo 117 (zpure (.iload_n 2) 11 0 [] ls st h)) ∧
  (∀ (ls : zL) (st : zS) (h : zH), zx 117 11 ls st h = zca 117 11 14 ls 114 2 7 (ztake 2 st) h) ∧
  (∀ (ls : zL) (st : zS) (h : zH), zx 117 14 ls st h = zgo 117 (zpure (.ifCond .eq 7) 17 21 [] ls st h)) ∧
  (∀ (ls : zL) (st : zS) (h : zH), zx 117 17 ls st h = zgo 117 (zpure (.iconst 0) 18 0 [] ls st h)) ∧
  (∀ (ls : zL) (st : zS) (h : zH), zx 117 18 ls st h = zgo 117 (zpure (.goto 4) 21 22 [] ls st h)) ∧
  (∀ (ls : zL) (st : zS) (h : zH), zx 117 21 ls st h = zgo 117 (zpure (.iconst 1) 22 0 [] ls st h)) ∧
  (∀ (ls : zL) (st : zS) (h : zH), zx 117 22 ls st h = zgo 117 (zpure (.putfield 84) 25 0 [6, 32, 0] ls st h)) ∧
  (∀ (ls : zL) (st : zS) (h : zH), zx 117 25 ls st h = zgo 117 (zpure (.aload_n 0) 26 0 [] ls st h)) ∧
  (∀ (ls : zL) (st : zS) (h : zH), zx 117 26 ls st h = zgo 117 (zpure (.getfield 84) 29 0 [6, 32] ls st h)) ∧
  (∀ (ls : zL) (st : zS) (h : zH), zx 117 29 ls st h = zgo 117 (zpure (.ifCond .le 5) 32 34 [] ls st h)) ∧
  (∀ (ls : zL) (st : zS) (h : zH), zx 117 32 ls st h = zgo 117 (zpure (.iconst 0) 33 0 [] ls st h)) ∧
  (∀ (ls : zL) (st : zS) (h : zH), zx 117 33 ls st h = zret 0 st h) ∧
  (∀ (ls : zL) (st : zS) (h : zH), zx 117 34 ls st h = zgo 117 (zpure (.iconst 5) 35 0 [] ls st h)) ∧
  (∀ (ls : zL) (st : zS) (h : zH), zx 117 35 ls st h = zgo 117 (zpure (.newarray .int) 37 0 [] ls st h)) ∧
  (∀ (ls : zL) (st : zS) (h : zH), zx 117 37 ls st h = zgo 117 (zpure .dup 38 0 [] ls st h)) ∧
  (∀ (ls : zL) (st : zS) (h : zH), zx 117 38 ls st h = zgo 117 (zpure (.iconst 0) 39 0 [] ls st h)) ∧
  (∀ (ls : zL) (st : zS) (h : zH), zx 117 39 ls st h = zgo 117 (zpure (.aload_n 0) 40 0 [] ls st h)) ∧
  (∀ (ls : zL) (st : zS) (h : zH), zx 117 40 ls st h = zgo 117 (zpure (.getfield 33) 43 0 [6, 9] ls st h)) ∧
  (∀ (ls : zL) (st : zS) (h : zH), zx 117 43 ls st h = zgo 117 (zpure (.iload_n 1) 44 0 [] ls st h)) ∧
  (∀ (ls : zL) (st : zS) (h : zH), zx 117 44 ls st h = zgo 117 (zpure .iaload 45 0 [] ls st h)) ∧
  (∀ (ls : zL) (st : zS) (h : zH), zx 117 45 ls st h = zgo 117 (zpure .iastore 46 0 [] ls st h)) ∧
  (∀ (ls : zL) (st : zS) (h : zH), zx 117 46 ls st h = zgo 117 (zpure .dup 47 0 [] ls st h)) ∧
  (∀ (ls : zL) (st : zS) (h : zH), zx 117 47 ls st h = zgo 117 (zpure (.iconst 1) 48 0 [] ls st h)) ∧
  (∀ (ls : zL) (st : zS) (h : zH), zx 117 48 ls st h = zgo 117 (zpure (.aload_n 0) 49 0 [] ls st h)) ∧
  (∀ (ls : zL) (st : zS) (h : zH), zx 117 49 ls st h = zgo 117 (zpure (.getfield 36) 52 0 [6, 10] ls st h)) ∧
  (∀ (ls : zL) (st : zS) (h : zH), zx 117 52 ls st h = zgo 117 (zpure (.iload_n 1) 53 0 [] ls st h)) ∧
  (∀ (ls : zL) (st : zS) (h : zH), zx 117 53 ls st h = zgo 117 (zpure .iaload 54 0 [] ls st h)) ∧
  (∀ (ls : zL) (st : zS) (h : zH), zx 117 54 ls st h = zgo 117 (zpure .iastore 55 0 [] ls st h)) ∧
  (∀ (ls : zL) (st : zS) (h : zH), zx 117 55 ls st h = zgo 117 (zpure .dup 56 0 [] ls st h)) ∧
  (∀ (ls : zL) (st : zS) (h : zH), zx 117 56 ls st h = zgo 117 (zpure (.iconst 2) 57 0 [] ls st h)) ∧
  (∀ (ls : zL) (st : zS) (h : zH), zx 117 57 ls st h = zgo 117 (zpure (.aload_n 0) 58 0 [] ls st h)) ∧
  (∀ (ls : zL) (st : zS) (h : zH), zx 117 58 ls st h = zgo 117 (zpure (.getfield 39) 61 0 [6, 11] ls st h)) ∧
  (∀ (ls : zL) (st : zS) (h : zH), zx 117 61 ls st h = zgo 117 (zpure (.iload_n 1) 62 0 [] ls st h)) ∧
  (∀ (ls : zL) (st : zS) (h : zH), zx 117 62 ls st h = zgo 117 (zpure .iaload 63 0 [] ls st h)) ∧
  (∀ (ls : zL) (st : zS) (h : zH), zx 117 63 ls st h = zgo 117 (zpure .iastore 64 0 [] ls st h)) ∧
  (∀ (ls : zL) (st : zS) (h : zH), zx 117 64 ls st h = zgo 117 (zpure .dup 65 0 [] ls st h)) ∧
  (∀ (ls : zL) (st : zS) (h : zH), zx 117 65 ls st h = zgo 117 (zpure (.iconst 3) 66 0 [] ls st h)) ∧
  (∀ (ls : zL) (st : zS) (h : zH), zx 117 66 ls st h = zgo 117 (zpure (.aload_n 0) 67 0 [] ls st h)) ∧
  (∀ (ls : zL) (st : zS) (h : zH), zx 117 67 ls st h = zgo 117 (zpure (.getfield 42) 70 0 [6, 12] ls st h)) ∧
  (∀ (ls : zL) (st : zS) (h : zH), zx 117 70 ls st h = zgo 117 (zpure (.iload_n 1) 71 0 [] ls st h)) ∧
  (∀ (ls : zL) (st : zS) (h : zH), zx 117 71 ls st h = zgo 117 (zpure .caload 72 0 [] ls st h)) ∧
  (∀ (ls : zL) (st : zS) (h : zH), zx 117 72 ls st h = zgo 117 (zpure .iastore 73 0 [] ls st h)) ∧
  (∀ (ls : zL) (st : zS) (h : zH), zx 117 73 ls st h = zgo 117 (zpure .dup 74 0 [] ls st h)) ∧
  (∀ (ls : zL) (st : zS) (h : zH), zx 117 74 ls st h = zgo 117 (zpure (.iconst 4) 75 0 [] ls st h)) ∧
  (∀ (ls : zL) (st : zS) (h : zH), zx 117 75 ls st h = zgo 117 (zpure (.aload_n 0) 76 0 [] ls st h)) ∧
  (∀ (ls : zL) (st : zS) (h : zH), zx 117 76 ls st h = zgo 117 (zpure (.getfield 51) 79 0 [6, 14] ls st h)) ∧
  (∀ (ls : zL) (st : zS) (h : zH), zx 117 79 ls st h = zgo 117 (zpure (.iload_n 1) 80 0 [] ls st h)) ∧
  (∀ (ls : zL) (st : zS) (h : zH), zx 117 80 ls st h = zgo 117 (zpure .iaload 81 0 [] ls st h)) ∧
  (∀ (ls : zL) (st : zS) (h : zH), zx 117 81 ls st h = zgo 117 (zpure .iastore 82 0 [] ls st h)) ∧
  (∀ (ls : zL) (st : zS) (h : zH), zx 117 82 ls st h = zgo 117 (zpure (.astore_n 3) 83 0 [] ls st h)) ∧
  (∀ (ls : zL) (st : zS) (h : zH), zx 117 83 ls st h = zgo 117 (zpure (.bipush 9) 85 0 [] ls st h)) ∧
  (∀ (ls : zL) (st : zS) (h : zH), zx 117 85 ls st h = zgo 117 (zpure (.newarray .int) 87 0 [] ls st h)) ∧
  (∀ (ls : zL) (st : zS) (h : zH), zx 117 87 ls st h = zgo 117 (zpure (.astore 4) 89 0 [] ls st h)) ∧
  (∀ (ls : zL) (st : zS) (h : zH), zx 117 89 ls st h = zgo 117 (zpure (.iconst 0) 90 0 [] ls st h)) :=
  ⟨zx_0 rfl, zx_0 rfl, zx_0 rfl, zx_2c rfl, zx_0 rfl, zx_0 rfl, zx_0 rfl, zx_2c rfl, zx_0 rfl, zx_0 rfl, zx_0 rfl, zx_0 rfl, zx_0 rfl, zx_0 rfl, zx_0 rfl, zx_0 rfl, zx_0 rfl, zx_1 rfl, zx_0 rfl, zx_0 rfl, zx_0 rfl, zx_0 rfl, zx_0 rfl, zx_0 rfl, zx_0 rfl, zx_0 rfl, zx_0 rfl, zx_0 rfl, zx_0 rfl, zx_0 rfl, zx_0 rfl, zx_0 rfl, zx_0 rfl, zx_0 rfl, zx_0 rfl, zx_0 rfl, zx_0 rfl, zx_0 rfl, zx_0 rfl, zx_0 rfl, zx_0 rfl, zx_0 rfl, zx_0 rfl, zx_0 rfl, zx_0 rfl, zx_0 rfl, zx_0 rfl, zx_0 rfl, zx_0 rfl, zx_0 rfl, zx_0 rfl, zx_0 rfl, zx_0 rfl, zx_0 rfl, zx_0 rfl, zx_0 rfl, zx_0 rfl, zx_0 rfl, zx_0 rfl, zx_0 rfl⟩
set_option maxRecDepth 4000 in
theorem z117_b1 :
  (∀ (ls : zL) (st : zS) (h : zH), zx 117 90 ls st h = zgo 117 (zpure (.istore 5) 92 0 [] ls st h)) ∧
  (∀ (ls : zL) (st : zS) (h : zH), zx 117 94 ls st h = zgo 117 (zpure (.bipush 9) 96 0 [] ls st h)) ∧
  (∀ (ls : zL) (st : zS) (h : zH), zx 117 96 ls st h = zgo 117 (zpure (.if_icmp .ge 23) 99 119 [] ls st h)) ∧
  (∀ (ls : zL) (st : zS) (h : zH), zx 117 99 ls st h = zgo 117 (zpure (.aload 4) 101 0 [] ls st h)) ∧
  (∀ (ls : zL) (st : zS) (h : zH), zx 117 101 ls st h = zgo 117 (zpure (.iload 5) 103 0 [] ls st h)) ∧
  (∀ (ls : zL) (st : zS) (h : zH), zx 117 103 ls st h = zgo 117 (zpure (.aload_n 0) 104 0 [] ls st h)) ∧
  (∀ (ls : zL) (st : zS) (h : zH), zx 117 104 ls st h = zgo 117 (zpure (.getfield 48) 107 0 [6, 13] ls st h)) ∧
  (∀ (ls : zL) (st : zS) (h : zH), zx 117 107 ls st h = zgo 117 (zpure (.iload_n 1) 108 0 [] ls st h)) ∧
  (∀ (ls : zL) (st : zS) (h : zH), zx 117 108 ls st h = zgo 117 (zpure .aaload 109 0 [] ls st h)) ∧
  (∀ (ls : zL) (st : zS) (h : zH), zx 117 109 ls st h = zgo 117 (zpure (.iload 5) 111 0 [] ls st h)) ∧
  (∀ (ls : zL) (st : zS) (h : zH), zx 117 111 ls st h = zgo 117 (zpure .iaload 112 0 [] ls st h)) ∧
  (∀ (ls : zL) (st : zS) (h : zH), zx 117 112 ls st h = zgo 117 (zpure .iastore 113 0 [] ls st h)) ∧
  (∀ (ls : zL) (st : zS) (h : zH), zx 117 113 ls st h = zgo 117 (zpure (.iinc 5 1) 116 0 [] ls st h)) ∧
  (∀ (ls : zL) (st : zS) (h : zH), zx 117 116 ls st h = zgo 117 (zpure (.goto (-24)) 119 92 [] ls st h)) ∧
  (∀ (ls : zL) (st : zS) (h : zH), zx 117 119 ls st h = zgo 117 (zpure (.iload_n 2) 120 0 [] ls st h)) ∧
  (∀ (ls : zL) (st : zS) (h : zH), zx 117 120 ls st h = zgo 117 (zpure (.iload_n 1) 121 0 [] ls st h)) ∧
  (∀ (ls : zL) (st : zS) (h : zH), zx 117 121 ls st h = zgo 117 (zpure (.if_icmp .le 7) 124 128 [] ls st h)) ∧
  (∀ (ls : zL) (st : zS) (h : zH), zx 117 124 ls st h = zgo 117 (zpure (.iconst 1) 125 0 [] ls st h)) ∧
  (∀ (ls : zL) (st : zS) (h : zH), zx 117 125 ls st h = zgo 117 (zpure (.goto 4) 128 129 [] ls st h)) ∧
  (∀ (ls : zL) (st : zS) (h : zH), zx 117 128 ls st h = zgo 117 (zpure (.iconst (-1)) 129 0 [] ls st h)) ∧
  (∀ (ls : zL) (st : zS) (h : zH), zx 117 129 ls st h = zgo 117 (zpure (.istore 5) 131 0 [] ls st h)) ∧
  (∀ (ls : zL) (st : zS) (h : zH), zx 117 131 ls st h = zgo 117 (zpure (.iload_n 1) 132 0 [] ls st h)) ∧
  (∀ (ls : zL) (st : zS) (h : zH), zx 117 132 ls st h = zgo 117 (zpure (.istore 6) 134 0 [] ls st h)) ∧
  (∀ (ls : zL) (st : zS) (h : zH), zx 117 136 ls st h = zgo 117 (zpure (.iload_n 2) 137 0 [] ls st h)) ∧
  (∀ (ls : zL) (st : zS) (h : zH), zx 117 137 ls st h = zgo 117 (zpure (.if_icmp .eq 24) 140 161 [] ls st h)) ∧
  (∀ (ls : zL) (st : zS) (h : zH), zx 117 140 ls st h = zgo 117 (zpure (.aload_n 0) 141 0 [] ls st h)) ∧
  (∀ (ls : zL) (st : zS) (h : zH), zx 117 141 ls st h = zgo 117 (zpure (.iload 6) 143 0 [] ls st h)) ∧
  (∀ (ls : zL) (st : zS) (h : zH), zx 117 143 ls st h = zgo 117 (zpure (.iload 5) 145 0 [] ls st h)) ∧
  (∀ (ls : zL) (st : zS) (h : zH), zx 117 145 ls st h = zgo 117 (zpure .iadd 146 0 [] ls st h)) ∧
  (∀ (ls : zL) (st : zS) (h : zH), zx 117 146 ls st h = zgo 117 (zpure (.iload 6) 148 0 [] ls st h)) ∧
  (∀ (ls : zL) (st : zS) (h : zH), zx 117 148 ls st h = zca 117 148 151 ls 113 4 7 (ztake 3 st) h) ∧
  (∀ (ls : zL) (st : zS) (h : zH), zx 117 151 ls st h = zgo 117 (zpure (.iload 6) 153 0 [] ls st h)) ∧
  (∀ (ls : zL) (st : zS) (h : zH), zx 117 153 ls st h = zgo 117 (zpure (.iload 5) 155 0 [] ls st h)) ∧
  (∀ (ls : zL) (st : zS) (h : zH), zx 117 155 ls st h = zgo 117 (zpure .iadd 156 0 [] ls st h)) ∧
  (∀ (ls : zL) (st : zS) (h : zH), zx 117 156 ls st h = zgo 117 (zpure (.istore 6) 158 0 [] ls st h)) ∧
  (∀ (ls : zL) (st : zS) (h : zH), zx 117 158 ls st h = zgo 117 (zpure (.goto (-24)) 161 134 [] ls st h)) ∧
  (∀ (ls : zL) (st : zS) (h : zH), zx 117 161 ls st h = zgo 117 (zpure (.aload_n 0) 162 0 [] ls st h)) ∧
  (∀ (ls : zL) (st : zS) (h : zH), zx 117 162 ls st h = zgo 117 (zpure (.getfield 33) 165 0 [6, 9] ls st h)) ∧
  (∀ (ls : zL) (st : zS) (h : zH), zx 117 165 ls st h = zgo 117 (zpure (.iload_n 2) 166 0 [] ls st h)) ∧
  (∀ (ls : zL) (st : zS) (h : zH), zx 117 166 ls st h = zgo 117 (zpure (.aload_n 3) 167 0 [] ls st h)) ∧
  (∀ (ls : zL) (st : zS) (h : zH), zx 117 167 ls st h = zgo 117 (zpure (.iconst 0) 168 0 [] ls st h)) ∧
  (∀ (ls : zL) (st : zS) (h : zH), zx 117 168 ls st h = zgo 117 (zpure .iaload 169 0 [] ls st h)) ∧
  (∀ (ls : zL) (st : zS) (h : zH), zx 117 169 ls st h = zgo 117 (zpure .iastore 170 0 [] ls st h)) ∧
  (∀ (ls : zL) (st : zS) (h : zH), zx 117 170 ls st h = zgo 117 (zpure (.aload_n 0) 171 0 [] ls st h)) ∧
  (∀ (ls : zL) (st : zS) (h : zH), zx 117 171 ls st h = zgo 117 (zpure (.getfield 36) 174 0 [6, 10] ls st h)) ∧
  (∀ (ls : zL) (st : zS) (h : zH), zx 117 174 ls st h = zgo 117 (zpure (.iload_n 2) 175 0 [] ls st h)) ∧
  (∀ (ls : zL) (st : zS) (h : zH), zx 117 175 ls st h = zgo 117 (zpure (.aload_n 3) 176 0 [] ls st h)) ∧
  (∀ (ls : zL) (st : zS) (h : zH), zx 117 176 ls st h = zgo 117 (zpure (.iconst 1) 177 0 [] ls st h)) ∧
  (∀ (ls : zL) (st : zS) (h : zH), zx 117 177 ls st h = zgo 117 (zpure .iaload 178 0 [] ls st h)) ∧
  (∀ (ls : zL) (st : zS) (h : zH), zx 117 178 ls st h = zgo 117 (zpure .iastore 179 0 [] ls st h)) ∧
  (∀ (ls : zL) (st : zS) (h : zH), zx 117 179 ls st h = zgo 117 (zpure (.aload_n 0) 180 0 [] ls st h)) ∧
  (∀ (ls : zL) (st : zS) (h : zH), zx 117 180 ls st h = zgo 117 (zpure (.getfield 39) 183 0 [6, 11] ls st h)) ∧
  (∀ (ls : zL) (st : zS) (h : zH), zx 117 183 ls st h = zgo 117 (zpure (.iload_n 2) 184 0 [] ls st h)) ∧
  (∀ (ls : zL) (st : zS) (h : zH), zx 117 184 ls st h = zgo 117 (zpure (.aload_n 3) 185 0 [] ls st h)) ∧
  (∀ (ls : zL) (st : zS) (h : zH), zx 117 185 ls st h = zgo 117 (zpure (.iconst 2) 186 0 [] ls st h)) ∧
  (∀ (ls : zL) (st : zS) (h : zH), zx 117 186 ls st h = zgo 117 (zpure .iaload 187 0 [] ls st h)) ∧
  (∀ (ls : zL) (st : zS) (h : zH), zx 117 187 ls st h = zgo 117 (zpure .iastore 188 0 [] ls st h)) ∧
  (∀ (ls : zL) (st : zS) (h : zH), zx 117 188 ls st h = zgo 117 (zpure (.aload_n 0) 189 0 [] ls st h)) ∧
  (∀ (ls : zL) (st : zS) (h : zH), zx 117 189 ls st h = zgo 117 (zpure (.getfield 42) 192 0 [6, 12] ls st h)) ∧
  (∀ (ls : zL) (st : zS) (h : zH), zx 117 192 ls st h = zgo 117 (zpure (.iload_n 2) 193 0 [] ls st h)) :=
  ⟨zx_0 rfl, zx_0 rfl, zx_0 rfl, zx_0 rfl, zx_0 rfl, zx_0 rfl, zx_0 rfl, zx_0 rfl, zx_0 rfl, zx_0 rfl, zx_0 rfl, zx_0 rfl, zx_0 rfl, zx_0 rfl, zx_0 rfl, zx_0 rfl, zx_0 rfl, zx_0 rfl, zx_0 rfl, zx_0 rfl, zx_0 rfl, zx_0 rfl, zx_0 rfl, zx_0 rfl, zx_0 rfl, zx_0 rfl, zx_0 rfl, zx_0 rfl, zx_0 rfl, zx_0 rfl, zx_2c rfl, zx_0 rfl, zx_0 rfl, zx_0 rfl, zx_0 rfl, zx_0 rfl, zx_0 rfl, zx_0 rfl, zx_0 rfl, zx_0 rfl, zx_0 rfl, zx_0 rfl, zx_0 rfl, zx_0 rfl, zx_0 rfl, zx_0 rfl, zx_0 rfl, zx_0 rfl, zx_0 rfl, zx_0 rfl, zx_0 rfl, zx_0 rfl, zx_0 rfl, zx_0 rfl, zx_0 rfl, zx_0 rfl, zx_0 rfl, zx_0 rfl, zx_0 rfl, zx_0 rfl⟩
set_option maxRecDepth 4000 in
theorem z117_b2 :
  (∀ (ls : zL) (st : zS) (h : zH), zx 117 193 ls st h = zgo 117 (zpure (.aload_n 3) 194 0 [] ls st h)) ∧
  (∀ (ls : zL) (st : zS) (h : zH), zx 117 194 ls st h = zgo 117 (zpure (.iconst 3) 195 0 [] ls st h)) ∧
  (∀ (ls : zL) (st : zS) (h : zH), zx 117 195 ls st h = zgo 117 (zpure .iaload 196 0 [] ls st h)) ∧
  (∀ (ls : zL) (st : zS) (h : zH), zx 117 196 ls st h = zgo 117 (zpure .i2c 197 0 [] ls st h)) ∧
  (∀ (ls : zL) (st : zS) (h : zH), zx 117 197 ls st h = zgo 117 (zpure .castore 198 0 [] ls st h)) ∧
  (∀ (ls : zL) (st : zS) (h : zH), zx 117 198 ls st h = zgo 117 (zpure (.aload_n 0) 199 0 [] ls st h)) ∧
  (∀ (ls : zL) (st : zS) (h : zH), zx 117 199 ls st h = zgo 117 (zpure (.getfield 51) 202 0 [6, 14] ls st h)) ∧
  (∀ (ls : zL) (st : zS) (h : zH), zx 117 202 ls st h = zgo 117 (zpure (.iload_n 2) 203 0 [] ls st h)) ∧
  (∀ (ls : zL) (st : zS) (h : zH), zx 117 203 ls st h = zgo 117 (zpure (.aload_n 3) 204 0 [] ls st h)) ∧
  (∀ (ls : zL) (st : zS) (h : zH), zx 117 204 ls st h = zgo 117 (zpure (.iconst 4) 205 0 [] ls st h)) ∧
  (∀ (ls : zL) (st : zS) (h : zH), zx 117 205 ls st h = zgo 117 (zpure .iaload 206 0 [] ls st h)) ∧
  (∀ (ls : zL) (st : zS) (h : zH), zx 117 206 ls st h = zgo 117 (zpure .iastore 207 0 [] ls st h)) ∧
  (∀ (ls : zL) (st : zS) (h : zH), zx 117 207 ls st h = zgo 117 (zpure (.iconst 0) 208 0 [] ls st h)) ∧
  (∀ (ls : zL) (st : zS) (h : zH), zx 117 208 ls st h = zgo 117 (zpure (.istore 6) 210 0 [] ls st h)) ∧
  (∀ (ls : zL) (st : zS) (h : zH), zx 117 212 ls st h = zgo 117 (zpure (.bipush 9) 214 0 [] ls st h)) ∧
  (∀ (ls : zL) (st : zS) (h : zH), zx 117 214 ls st h = zgo 117 (zpure (.if_icmp .ge 23) 217 237 [] ls st h)) ∧
  (∀ (ls : zL) (st : zS) (h : zH), zx 117 217 ls st h = zgo 117 (zpure (.aload_n 0) 218 0 [] ls st h)) ∧
  (∀ (ls : zL) (st : zS) (h : zH), zx 117 218 ls st h = zgo 117 (zpure (.getfield 48) 221 0 [6, 13] ls st h)) ∧
  (∀ (ls : zL) (st : zS) (h : zH), zx 117 221 ls st h = zgo 117 (zpure (.iload_n 2) 222 0 [] ls st h)) ∧
  (∀ (ls : zL) (st : zS) (h : zH), zx 117 222 ls st h = zgo 117 (zpure .aaload 223 0 [] ls st h)) ∧
  (∀ (ls : zL) (st : zS) (h : zH), zx 117 223 ls st h = zgo 117 (zpure (.iload 6) 225 0 [] ls st h)) ∧
  (∀ (ls : zL) (st : zS) (h : zH), zx 117 225 ls st h = zgo 117 (zpure (.aload 4) 227 0 [] ls st h)) ∧
  (∀ (ls : zL) (st : zS) (h : zH), zx 117 227 ls st h = zgo 117 (zpure (.iload 6) 229 0 [] ls st h)) ∧
  (∀ (ls : zL) (st : zS) (h : zH), zx 117 229 ls st h = zgo 117 (zpure .iaload 230 0 [] ls st h)) ∧
  (∀ (ls : zL) (st : zS) (h : zH), zx 117 230 ls st h = zgo 117 (zpure .iastore 231 0 [] ls st h)) ∧
  (∀ (ls : zL) (st : zS) (h : zH), zx 117 231 ls st h = zgo 117 (zpure (.iinc 6 1) 234 0 [] ls st h)) ∧
  (∀ (ls : zL) (st : zS) (h : zH), zx 117 234 ls st h = zgo 117 (zpure (.goto (-24)) 237 210 [] ls st h)) ∧
  (∀ (ls : zL) (st : zS) (h : zH), zx 117 237 ls st h = zgo 117 (zpure (.iload_n 2) 238 0 [] ls st h)) ∧
  (∀ (ls : zL) (st : zS) (h : zH), zx 117 238 ls st h = zgo 117 (zpure (.iload_n 1) 239 0 [] ls st h)) ∧
  (∀ (ls : zL) (st : zS) (h : zH), zx 117 239 ls st h = zgo 117 (zpure .isub 240 0 [] ls st h)) ∧
  (∀ (ls : zL) (st : zS) (h : zH), zx 117 240 ls st h = zgo 117 (zpure (.invokestatic 119) 243 0 [3] ls st h)) ∧
  (∀ (ls : zL) (st : zS) (h : zH), zx 117 243 ls st h = zret 0 st h) :=
  ⟨zx_0 rfl, zx_0 rfl, zx_0 rfl, zx_0 rfl, zx_0 rfl, zx_0 rfl, zx_0 rfl, zx_0 rfl, zx_0 rfl, zx_0 rfl, zx_0 rfl, zx_0 rfl, zx_0 rfl, zx_0 rfl, zx_0 rfl, zx_0 rfl, zx_0 rfl, zx_0 rfl, zx_0 rfl, zx_0 rfl, zx_0 rfl, zx_0 rfl, zx_0 rfl, zx_0 rfl, zx_0 rfl, zx_0 rfl, zx_0 rfl, zx_0 rfl, zx_0 rfl, zx_0 rfl, zx_0 rfl, zx_1 rfl⟩
/-- X6_setOverrun -/
theorem z118 :
  (∀ (ls : zL) (st : zS) (h : zH), zx 118 0 ls st h = zgo 118 (zpure (.aload_n 0) 1 0 [] ls st h)) ∧
  (∀ (ls : zL) (st : zS) (h : zH), zx 118 1 ls st h = zgo 118 (zpure (.aload_n 0) 2 0 [] ls st h)) ∧
  (∀ (ls : zL) (st : zS) (h : zH), zx 118 2 ls st h = zgo 118 (zpure (.iload_n 1) 3 0 [] ls st h)) ∧
  (∀ (ls : zL) (st : zS) (h : zH), zx 118 3 ls st h = zca 118 3 6 ls 114 2 7 (ztake 2 st) h) ∧
  (∀ (ls : zL) (st : zS) (h : zH), zx 118 6 ls st h = zgo 118 (zpure (.ifCond .ne 7) 9 13 [] ls st h)) ∧
  (∀ (ls : zL) (st : zS) (h : zH), zx 118 9 ls st h = zgo 118 (zpure (.iconst 1) 10 0 [] ls st h)) ∧
  (∀ (ls : zL) (st : zS) (h : zH), zx 118 10 ls st h = zgo 118 (zpure (.goto 19) 13 29 [] ls st h)) ∧
  (∀ (ls : zL) (st : zS) (h : zH), zx 118 13 ls st h = zgo 118 (zpure (.iload_n 2) 14 0 [] ls st h)) ∧
  (∀ (ls : zL) (st : zS) (h : zH), zx 118 14 ls st h = zgo 118 (zpure (.iconst 0) 15 0 [] ls st h)) ∧
  (∀ (ls : zL) (st : zS) (h : zH), zx 118 15 ls st h = zgo 118 (zpure (.sipush 900) 18 0 [] ls st h)) ∧
  (∀ (ls : zL) (st : zS) (h : zH), zx 118 18 ls st h = zca 118 18 21 ls 105 3 0 (ztake 3 st) h) ∧
  (∀ (ls : zL) (st : zS) (h : zH), zx 118 21 ls st h = zgo 118 (zpure (.ifCond .ne 7) 24 28 [] ls st h)) ∧
  (∀ (ls : zL) (st : zS) (h : zH), zx 118 24 ls st h = zgo 118 (zpure (.iconst 2) 25 0 [] ls st h)) ∧
  (∀ (ls : zL) (st : zS) (h : zH), zx 118 25 ls st h = zgo 118 (zpure (.goto 4) 28 29 [] ls st h)) ∧
  (∀ (ls : zL) (st : zS) (h : zH), zx 118 28 ls st h = zgo 118 (zpure (.iconst 0) 29 0 [] ls st h)) ∧
  (∀ (ls : zL) (st : zS) (h : zH), zx 118 29 ls st h = zgo 118 (zpure (.putfield 84) 32 0 [6, 32, 0] ls st h)) ∧
  (∀ (ls : zL) (st : zS) (h : zH), zx 118 32 ls st h = zgo 118 (zpure (.aload_n 0) 33 0 [] ls st h)) ∧
  (∀ (ls : zL) (st : zS) (h : zH), zx 118 33 ls st h = zgo 118 (zpure (.getfield 84) 36 0 [6, 32] ls st h)) ∧
  (∀ (ls : zL) (st : zS) (h : zH), zx 118 36 ls st h = zgo 118 (zpure (.ifCond .le 5) 39 41 [] ls st h)) ∧
  (∀ (ls : zL) (st : zS) (h : zH), zx 118 39 ls st h = zgo 118 (zpure (.iconst 0) 40 0 [] ls st h)) ∧
  (∀ (ls : zL) (st : zS) (h : zH), zx 118 40 ls st h = zret 0 st h) ∧
  (∀ (ls : zL) (st : zS) (h : zH), zx 118 41 ls st h = zgo 118 (zpure (.aload_n 0) 42 0 [] ls st h)) ∧
  (∀ (ls : zL) (st : zS) (h : zH), zx 118 42 ls st h = zgo 118 (zpure (.getfield 39) 45 0 [6, 11] ls st h)) ∧
  (∀ (ls : zL) (st : zS) (h : zH), zx 118 45 ls st h = zgo 118 (zpure (.iload_n 1) 46 0 [] ls st h)) ∧
  (∀ (ls : zL) (st : zS) (h : zH), zx 118 46 ls st h = zgo 118 (zpure .iaload 47 0 [] ls st h)) ∧
  (∀ (ls : zL) (st : zS) (h : zH), zx 118 47 ls st h = zgo 118 (zpure (.istore_n 3) 48 0 [] ls st h)) ∧
  (∀ (ls : zL) (st : zS) (h : zH), zx 118 48 ls st h = zgo 118 (zpure (.aload_n 0) 49 0 [] ls st h)) ∧
  (∀ (ls : zL) (st : zS) (h : zH), zx 118 49 ls st h = zgo 118 (zpure (.getfield 39) 52 0 [6, 11] ls st h)) ∧
  (∀ (ls : zL) (st : zS) (h : zH), zx 118 52 ls st h = zgo 118 (zpure (.iload_n 1) 53 0 [] ls st h)) ∧
  (∀ (ls : zL) (st : zS) (h : zH), zx 118 53 ls st h = zgo 118 (zpure (.iload_n 2) 54 0 [] ls st h)) ∧
  (∀ (ls : zL) (st : zS) (h : zH), zx 118 54 ls st h = zgo 118 (zpure .iastore 55 0 [] ls st h)) ∧
  (∀ (ls : zL) (st : zS) (h : zH), zx 118 55 ls st h = zgo 118 (zpure (.iload_n 3) 56 0 [] ls st h)) ∧
  (∀ (ls : zL) (st : zS) (h : zH), zx 118 56 ls st h = zret 0 st h) :=
  ⟨zx_0 rfl, zx_0 rfl, zx_0 rfl, zx_2c rfl, zx_0 rfl, zx_0 rfl, zx_0 rfl, zx_0 rfl, zx_0 rfl, zx_0 rfl, zx_2c rfl, zx_0 rfl, zx_0 rfl, zx_0 rfl, zx_0 rfl, zx_0 rfl, zx_0 rfl, zx_0 rfl, zx_0 rfl, zx_0 rfl, zx_1 rfl, zx_0 rfl, zx_0 rfl, zx_0 rfl, zx_0 rfl, zx_0 rfl, zx_0 rfl, zx_0 rfl, zx_0 rfl, zx_0 rfl, zx_0 rfl, zx_0 rfl, zx_1 rfl⟩
/-- X6_attach -/
theorem z119 :
  (∀ (ls : zL) (st : zS) (h : zH), zx 119 0 ls st h = zgo 119 (zpure (.iload_n 2) 1 0 [] ls st h)) ∧
  (∀ (ls : zL) (st : zS) (h : zH), zx 119 1 ls st h = zgo 119 (zpure (.bipush 115) 3 0 [] ls st h)) ∧
  (∀ (ls : zL) (st : zS) (h : zH), zx 119 3 ls st h = zgo 119 (zpure (.if_icmp .eq 9) 6 12 [] ls st h)) ∧
  (∀ (ls : zL) (st : zS) (h : zH), zx 119 6 ls st h = zgo 119 (zpure (.iload_n 2) 7 0 [] ls st h)) ∧
  (∀ (ls : zL) (st : zS) (h : zH), zx 119 7 ls st h = zgo 119 (zpure (.bipush 101) 9 0 [] ls st h)) ∧
  (∀ (ls : zL) (st : zS) (h : zH), zx 119 9 ls st h = zgo 119 (zpure (.if_icmp .ne 30) 12 39 [] ls st h)) ∧
  (∀ (ls : zL) (st : zS) (h : zH), zx 119 12 ls st h = zgo 119 (zpure (.iload_n 3) 13 0 [] ls st h)) ∧
  (∀ (ls : zL) (st : zS) (h : zH), zx 119 13 ls st h = zgo 119 (zpure (.iconst 0) 14 0 [] ls st h)) ∧
  (∀ (ls : zL) (st : zS) (h : zH), zx 119 14 ls st h = zgo 119 (zpure (.sipush 900) 17 0 [] ls st h)) ∧
  (∀ (ls : zL) (st : zS) (h : zH), zx 119 17 ls st h = zca 119 17 20 ls 105 3 0 (ztake 3 st) h) ∧
  (∀ (ls : zL) (st : zS) (h : zH), zx 119 20 ls st h = zgo 119 (zpure (.ifCond .eq 19) 23 39 [] ls st h)) ∧
  (∀ (ls : zL) (st : zS) (h : zH), zx 119 23 ls st h = zgo 119 (zpure (.iload 4) 25 0 [] ls st h)) ∧
  (∀ (ls : zL) (st : zS) (h : zH), zx 119 25 ls st h = zgo 119 (zpure (.iconst 1) 26 0 [] ls st h)) ∧
  (∀ (ls : zL) (st : zS) (h : zH), zx 119 26 ls st h = zgo 119 (zpure (.sipush 900) 29 0 [] ls st h)) ∧
  (∀ (ls : zL) (st : zS) (h : zH), zx 119 29 ls st h = zca 119 29 32 ls 105 3 0 (ztake 3 st) h) ∧
  (∀ (ls : zL) (st : zS) (h : zH), zx 119 32 ls st h = zgo 119 (zpure (.ifCond .eq 7) 35 39 [] ls st h)) ∧
  (∀ (ls : zL) (st : zS) (h : zH), zx 119 35 ls st h = zgo 119 (zpure (.iconst 1) 36 0 [] ls st h)) ∧
  (∀ (ls : zL) (st : zS) (h : zH), zx 119 36 ls st h = zgo 119 (zpure (.goto 4) 39 40 [] ls st h)) ∧
  (∀ (ls : zL) (st : zS) (h : zH), zx 119 39 ls st h = zgo 119 (zpure (.iconst 0) 40 0 [] ls st h)) ∧
  (∀ (ls : zL) (st : zS) (h : zH), zx 119 40 ls st h = zgo 119 (zpure (.istore 5) 42 0 [] ls st h)) ∧
  (∀ (ls : zL) (st : zS) (h : zH), zx 119 42 ls st h = zgo 119 (zpure (.aload_n 0) 43 0 [] ls st h)) ∧
  (∀ (ls : zL) (st : zS) (h : zH), zx 119 43 ls st h = zgo 119 (zpure (.aload_n 0) 44 0 [] ls st h)) ∧
  (∀ (ls : zL) (st : zS) (h : zH), zx 119 44 ls st h = zgo 119 (zpure (.iload_n 1) 45 0 [] ls st h)) ∧
  (∀ (ls : zL) (st : zS) (h : zH), zx 119 45 ls st h = zca 119 45 48 ls 114 2 7 (ztake 2 st) h) ∧
  (∀ (ls : zL) (st : zS) (h : zH), zx 119 48 ls st h = zgo 119 (zpure (.ifCond .ne 7) 51 55 [] ls st h)) ∧
  (∀ (ls : zL) (st : zS) (h : zH), zx 119 51 ls st h = zgo 119 (zpure (.iconst 1) 52 0 [] ls st h)) ∧
  (∀ (ls : zL) (st : zS) (h : zH), zx 119 52 ls st h = zgo 119 (zpure (.goto 27) 55 79 [] ls st h)) ∧
  (∀ (ls : zL) (st : zS) (h : zH), zx 119 55 ls st h = zgo 119 (zpure (.iload 5) 57 0 [] ls st h)) ∧
  (∀ (ls : zL) (st : zS) (h : zH), zx 119 57 ls st h = zgo 119 (zpure (.ifCond .ne 7) 60 64 [] ls st h)) ∧
  (∀ (ls : zL) (st : zS) (h : zH), zx 119 60 ls st h = zgo 119 (zpure (.iconst 2) 61 0 [] ls st h)) ∧
  (∀ (ls : zL) (st : zS) (h : zH), zx 119 61 ls st h = zgo 119 (zpure (.goto 18) 64 79 [] ls st h)) ∧
  (∀ (ls : zL) (st : zS) (h : zH), zx 119 64 ls st h = zgo 119 (zpure (.aload_n 0) 65 0 [] ls st h)) ∧
  (∀ (ls : zL) (st : zS) (h : zH), zx 119 65 ls st h = zgo 119 (zpure (.getfield 51) 68 0 [6, 14] ls st h)) ∧
  (∀ (ls : zL) (st : zS) (h : zH), zx 119 68 ls st h = zgo 119 (zpure (.iload_n 1) 69 0 [] ls st h)) ∧
  (∀ (ls : zL) (st : zS) (h : zH), zx 119 69 ls st h = zgo 119 (zpure .iaload 70 0 [] ls st h)) ∧
  (∀ (ls : zL) (st : zS) (h : zH), zx 119 70 ls st h = zgo 119 (zpure (.iconst 3) 71 0 [] ls st h)) ∧
  (∀ (ls : zL) (st : zS) (h : zH), zx 119 71 ls st h = zgo 119 (zpure (.if_icmp .ne 7) 74 78 [] ls st h)) ∧
  (∀ (ls : zL) (st : zS) (h : zH), zx 119 74 ls st h = zgo 119 (zpure (.iconst 3) 75 0 [] ls st h)) ∧
  (∀ (ls : zL) (st : zS) (h : zH), zx 119 75 ls st h = zgo 119 (zpure (.goto 4) 78 79 [] ls st h)) ∧
  (∀ (ls : zL) (st : zS) (h : zH), zx 119 78 ls st h = zgo 119 (zpure (.iconst 0) 79 0 [] ls st h)) ∧
  (∀ (ls : zL) (st : zS) (h : zH), zx 119 79 ls st h = zgo 119 (zpure (.putfield 84) 82 0 [6, 32, 0] ls st h)) ∧
  (∀ (ls : zL) (st : zS) (h : zH), zx 119 82 ls st h = zgo 119 (zpure (.aload_n 0) 83 0 [] ls st h)) ∧
  (∀ (ls : zL) (st : zS) (h : zH), zx 119 83 ls st h = zgo 119 (zpure (.getfield 84) 86 0 [6, 32] ls st h)) ∧
  (∀ (ls : zL) (st : zS) (h : zH), zx 119 86 ls st h = zgo 119 (zpure (.ifCond .le 5) 89 91 [] ls st h)) ∧
  (∀ (ls : zL) (st : zS) (h : zH), zx 119 89 ls st h = zgo 119 (zpure (.iconst 0) 90 0 [] ls st h)) ∧
  (∀ (ls : zL) (st : zS) (h : zH), zx 119 90 ls st h = zret 0 st h) ∧
  (∀ (ls : zL) (st : zS) (h : zH), zx 119 91 ls st h = zgo 119 (zpure (.iconst 3) 92 0 [] ls st h)) ∧
  (∀ (ls : zL) (st : zS) (h : zH), zx 119 92 ls st h = zgo 119 (zpure (.aload_n 0) 93 0 [] ls st h)) ∧
  (∀ (ls : zL) (st : zS) (h : zH), zx 119 93 ls st h = zgo 119 (zpure (.getfield 51) 96 0 [6, 14] ls st h)) ∧
  (∀ (ls : zL) (st : zS) (h : zH), zx 119 96 ls st h = zgo 119 (zpure (.iload_n 1) 97 0 [] ls st h)) ∧
  (∀ (ls : zL) (st : zS) (h : zH), zx 119 97 ls st h = zgo 119 (zpure .iaload 98 0 [] ls st h)) ∧
  (∀ (ls : zL) (st : zS) (h : zH), zx 119 98 ls st h = zgo 119 (zpure .imul 99 0 [] ls st h)) ∧
  (∀ (ls : zL) (st : zS) (h : zH), zx 119 99 ls st h = zgo 119 (zpure (.istore 6) 101 0 [] ls st h)) ∧
  (∀ (ls : zL) (st : zS) (h : zH), zx 119 101 ls st h = zgo 119 (zpure (.aload_n 0) 102 0 [] ls st h)) ∧
  (∀ (ls : zL) (st : zS) (h : zH), zx 119 102 ls st h = zgo 119 (zpure (.getfield 48) 105 0 [6, 13] ls st h)) ∧
  (∀ (ls : zL) (st : zS) (h : zH), zx 119 105 ls st h = zgo 119 (zpure (.iload_n 1) 106 0 [] ls st h)) ∧
  (∀ (ls : zL) (st : zS) (h : zH), zx 119 106 ls st h = zgo 119 (zpure .aaload 107 0 [] ls st h)) ∧
  (∀ (ls : zL) (st : zS) (h : zH), zx 119 107 ls st h = zgo 119 (zpure (.iload 6) 109 0 [] ls st h)) ∧
  (∀ (ls : zL) (st : zS) (h : zH), zx 119 109 ls st h = zgo 119 (zpure (.iload_n 2) 110 0 [] ls st h)) ∧
  (∀ (ls : zL) (st : zS) (h : zH), zx 119 110 ls st h = zgo 119 (zpure (.bipush 115) 112 0 [] ls st h)) ∧
  (∀ (ls : zL) (st : zS) (h : zH), zx 119 112 ls st h = zgo 119 (zpure (.if_icmp .ne 7) 115 119 [] ls st h)) ∧
  (∀ (ls : zL) (st : zS) (h : zH), zx 119 115 ls st h = zgo 119 (zpure (.iconst 0) 116 0 [] ls st h)) ∧
  (∀ (ls : zL) (st : zS) (h : zH), zx 119 116 ls st h = zgo 119 (zpure (.goto 4) 119 120 [] ls st h)) ∧
  (∀ (ls : zL) (st : zS) (h : zH), zx 119 119 ls st h = zgo 119 (zpure (.iconst 1) 120 0 [] ls st h)) ∧
  (∀ (ls : zL) (st : zS) (h : zH), zx 119 120 ls st h = zgo 119 (zpure .iastore 121 0 [] ls st h)) ∧
  (∀ (ls : zL) (st : zS) (h : zH), zx 119 121 ls st h = zgo 119 (zpure (.aload_n 0) 122 0 [] ls st h)) ∧
  (∀ (ls : zL) (st : zS) (h : zH), zx 119 122 ls st h = zgo 119 (zpure (.getfield 48) 125 0 [6, 13] ls st h)) ∧
  (∀ (ls : zL) (st : zS) (h : zH), zx 119 125 ls st h = zgo 119 (zpure (.iload_n 1) 126 0 [] ls st h)) ∧
  (∀ (ls : zL) (st : zS) (h : zH), zx 119 126 ls st h = zgo 119 (zpure .aaload 127 0 [] ls st h)) ∧
  (∀ (ls : zL) (st : zS) (h : zH), zx 119 127 ls st h = zgo 119 (zpure (.iload 6) 129 0 [] ls st h)) ∧
  (∀ (ls : zL) (st : zS) (h : zH), zx 119 129 ls st h = zgo 119 (zpure (.iconst 1) 130 0 [] ls st h)) ∧
  (∀ (ls : zL) (st : zS) (h : zH), zx 119 130 ls st h = zgo 119 (zpure .iadd 131 0 [] ls st h)) ∧
  (∀ (ls : zL) (st : zS) (h : zH), zx 119 131 ls st h = zgo 119 (zpure (.iload_n 3) 132 0 [] ls st h)) ∧
  (∀ (ls : zL) (st : zS) (h : zH), zx 119 132 ls st h = zgo 119 (zpure .iastore 133 0 [] ls st h)) ∧
  (∀ (ls : zL) (st : zS) (h : zH), zx 119 133 ls st h = zgo 119 (zpure (.aload_n 0) 134 0 [] ls st h)) ∧
  (∀ (ls : zL) (st : zS) (h : zH), zx 119 134 ls st h = zgo 119 (zpure (.getfield 48) 137 0 [6, 13] ls st h)) ∧
  (∀ (ls : zL) (st : zS) (h : zH), zx 119 137 ls st h = zgo 119 (zpure (.iload_n 1) 138 0 [] ls st h)) ∧
  (∀ (ls : zL) (st : zS) (h : zH), zx 119 138 ls st h = zgo 119 (zpure .aaload 139 0 [] ls st h)) ∧
  (∀ (ls : zL) (st : zS) (h : zH), zx 119 139 ls st h = zgo 119 (zpure (.iload 6) 141 0 [] ls st h)) ∧
  (∀ (ls : zL) (st : zS) (h : zH), zx 119 141 ls st h = zgo 119 (zpure (.iconst 2) 142 0 [] ls st h)) ∧
  (∀ (ls : zL) (st : zS) (h : zH), zx 119 142 ls st h = zgo 119 (zpure .iadd 143 0 [] ls st h)) ∧
  (∀ (ls : zL) (st : zS) (h : zH), zx 119 143 ls st h = zgo 119 (zpure (.iload 4) 145 0 [] ls st h)) ∧
  (∀ (ls : zL) (st : zS) (h : zH), zx 119 145 ls st h = zgo 119 (zpure .iastore 146 0 [] ls st h)) ∧
  (∀ (ls : zL) (st : zS) (h : zH), zx 119 146 ls st h = zgo 119 (zpure (.aload_n 0) 147 0 [] ls st h)) ∧
  (∀ (ls : zL) (st : zS) (h : zH), zx 119 147 ls st h = zgo 119 (zpure (.getfield 51) 150 0 [6, 14] ls st h)) ∧
  (∀ (ls : zL) (st : zS) (h : zH), zx 119 150 ls st h = zgo 119 (zpure (.iload_n 1) 151 0 [] ls st h)) ∧
  (∀ (ls : zL) (st : zS) (h : zH), zx 119 151 ls st h = zgo 119 (zpure .dup2 152 0 [] ls st h)) ∧
  (∀ (ls : zL) (st : zS) (h : zH), zx 119 152 ls st h = zgo 119 (zpure .iaload 153 0 [] ls st h)) ∧
  (∀ (ls : zL) (st : zS) (h : zH), zx 119 153 ls st h = zgo 119 (zpure (.iconst 1) 154 0 [] ls st h)) ∧
  (∀ (ls : zL) (st : zS) (h : zH), zx 119 154 ls st h = zgo 119 (zpure .iadd 155 0 [] ls st h)) ∧
  (∀ (ls : zL) (st : zS) (h : zH), zx 119 155 ls st h = zgo 119 (zpure .iastore 156 0 [] ls st h)) ∧
  (∀ (ls : zL) (st : zS) (h : zH), zx 119 156 ls st h = zgo 119 (zpure (.aload_n 0) 157 0 [] ls st h)) ∧
  (∀ (ls : zL) (st : zS) (h : zH), zx 119 157 ls st h = zgo 119 (zpure (.getfield 51) 160 0 [6, 14] ls st h)) ∧
  (∀ (ls : zL) (st : zS) (h : zH), zx 119 160 ls st h = zgo 119 (zpure (.iload_n 1) 161 0 [] ls st h)) ∧
  (∀ (ls : zL) (st : zS) (h : zH), zx 119 161 ls st h = zgo 119 (zpure .iaload 162 0 [] ls st h)) ∧
  (∀ (ls : zL) (st : zS) (h : zH), zx 119 162 ls st h = zret 0 st h) :=
  ⟨zx_0 rfl, zx_0 rfl, zx_0 rfl, zx_0 rfl, zx_0 rfl, zx_0 rfl, zx_0 rfl, zx_0 rfl, zx_0 rfl, zx_2c rfl, zx_0 rfl, zx_0 rfl, zx_0 rfl, zx_0 rfl, zx_2c rfl, zx_0 rfl, zx_0 rfl, zx_0 rfl, zx_0 rfl, zx_0 rfl, zx_0 rfl, zx_0 rfl, zx_0 rfl, zx_2c rfl, zx_0 rfl, zx_0 rfl, zx_0 rfl, zx_0 rfl, zx_0 rfl, zx_0 rfl, zx_0 rfl, zx_0 rfl, zx_0 rfl, zx_0 rfl, zx_0 rfl, zx_0 rfl, zx_0 rfl, zx_0 rfl, zx_0 rfl, zx_0 rfl, zx_0 rfl, zx_0 rfl, zx_0 rfl, zx_0 rfl, zx_0 rfl, zx_1 rfl, zx_0 rfl, zx_0 rfl, zx_0 rfl, zx_0 rfl, zx_0 rfl, zx_0 rfl, zx_0 rfl, zx_0 rfl, zx_0 rfl, zx_0 rfl, zx_0 rfl, zx_0 rfl, zx_0 rfl, zx_0 rfl, zx_0 rfl, zx_0 rfl, zx_0 rfl, zx_0 rfl, zx_0 rfl, zx_0 rfl, zx_0 rfl, zx_0 rfl, zx_0 rfl, zx_0 rfl, zx_0 rfl, zx_0 rfl, zx_0 rfl, zx_0 rfl, zx_0 rfl, zx_0 rfl, zx_0 rfl, zx_0 rfl, zx_0 rfl, zx_0 rfl, zx_0 rfl, zx_0 rfl, zx_0 rfl, zx_0 rfl, zx_0 rfl, zx_0 rfl, zx_0 rfl, zx_0 rfl, zx_0 rfl, zx_0 rfl, zx_0 rfl, zx_0 rfl, zx_0 rfl, zx_0 rfl, zx_0 rfl, zx_1 rfl⟩
/-- X6_events -/
theorem z120 :
  (∀ (ls : zL) (st : zS) (h : zH), zx 120 0 ls st h = zgo 120 (zpure (.aload_n 0) 1 0 [] ls st h)) ∧
  (∀ (ls : zL) (st : zS) (h : zH), zx 120 1 ls st h = zgo 120 (zpure (.iconst 0) 2 0 [] ls st h)) ∧
  (∀ (ls : zL) (st : zS) (h : zH), zx 120 2 ls st h = zgo 120 (zpure (.putfield 84) 5 0 [6, 32, 0] ls st h)) ∧
  (∀ (ls : zL) (st : zS) (h : zH), zx 120 5 ls st h = zgo 120 (zpure (.aload_n 0) 6 0 [] ls st h)) ∧
  (∀ (ls : zL) (st : zS) (h : zH), zx 120 6 ls st h = zgo 120 (zpure (.getfield 109) 9 0 [6, 15] ls st h)) ∧
  (∀ (ls : zL) (st : zS) (h : zH), zx 120 9 ls st h = zret 0 st h) :=
  ⟨zx_0 rfl, zx_0 rfl, zx_0 rfl, zx_0 rfl, zx_0 rfl, zx_1 rfl⟩
/-- X6_programme -/
theorem z121 :
  (∀ (ls : zL) (st : zS) (h : zH), zx 121 0 ls st h = zgo 121 (zpure (.aload_n 0) 1 0 [] ls st h)) ∧
  (∀ (ls : zL) (st : zS) (h : zH), zx 121 1 ls st h = zgo 121 (zpure (.aload_n 0) 2 0 [] ls st h)) ∧
  (∀ (ls : zL) (st : zS) (h : zH), zx 121 2 ls st h = zgo 121 (zpure (.iload_n 1) 3 0 [] ls st h)) ∧
  (∀ (ls : zL) (st : zS) (h : zH), zx 121 3 ls st h = zca 121 3 6 ls 114 2 7 (ztake 2 st) h) ∧
  (∀ (ls : zL) (st : zS) (h : zH), zx 121 6 ls st h = zgo 121 (zpure (.ifCond .eq 7) 9 13 [] ls st h)) ∧
  (∀ (ls : zL) (st : zS) (h : zH), zx 121 9 ls st h = zgo 121 (zpure (.iconst 0) 10 0 [] ls st h)) ∧
  (∀ (ls : zL) (st : zS) (h : zH), zx 121 10 ls st h = zgo 121 (zpure (.goto 4) 13 14 [] ls st h)) ∧
  (∀ (ls : zL) (st : zS) (h : zH), zx 121 13 ls st h = zgo 121 (zpure (.iconst 1) 14 0 [] ls st h)) ∧
  (∀ (ls : zL) (st : zS) (h : zH), zx 121 14 ls st h = zgo 121 (zpure (.putfield 84) 17 0 [6, 32, 0] ls st h)) ∧
  (∀ (ls : zL) (st : zS) (h : zH), zx 121 17 ls st h = zgo 121 (zpure (.aload_n 0) 18 0 [] ls st h)) ∧
  (∀ (ls : zL) (st : zS) (h : zH), zx 121 18 ls st h = zgo 121 (zpure (.getfield 84) 21 0 [6, 32] ls st h)) ∧
  (∀ (ls : zL) (st : zS) (h : zH), zx 121 21 ls st h = zgo 121 (zpure (.ifCond .le 7) 24 28 [] ls st h)) ∧
  (∀ (ls : zL) (st : zS) (h : zH), zx 121 24 ls st h = zgo 121 (zpure (.iconst 0) 25 0 [] ls st h)) ∧
  (∀ (ls : zL) (st : zS) (h : zH), zx 121 25 ls st h = zgo 121 (zpure (.goto 9) 28 34 [] ls st h)) ∧
  (∀ (ls : zL) (st : zS) (h : zH), zx 121 28 ls st h = zgo 121 (zpure (.aload_n 0) 29 0 [] ls st h)) ∧
  (∀ (ls : zL) (st : zS) (h : zH), zx 121 29 ls st h = zgo 121 (zpure (.getfield 33) 32 0 [6, 9] ls st h)) ∧
  (∀ (ls : zL) (st : zS) (h : zH), zx 121 32 ls st h = zgo 121 (zpure (.iload_n 1) 33 0 [] ls st h)) ∧
  (∀ (ls : zL) (st : zS) (h : zH), zx 121 33 ls st h = zgo 121 (zpure .iaload 34 0 [] ls st h)) ∧
  (∀ (ls : zL) (st : zS) (h : zH), zx 121 34 ls st h = zret 0 st h) :=
  ⟨zx_0 rfl, zx_0 rfl, zx_0 rfl, zx_2c rfl, zx_0 rfl, zx_0 rfl, zx_0 rfl, zx_0 rfl, zx_0 rfl, zx_0 rfl, zx_0 rfl, zx_0 rfl, zx_0 rfl, zx_0 rfl, zx_0 rfl, zx_0 rfl, zx_0 rfl, zx_0 rfl, zx_1 rfl⟩
/-- X6_isDay -/
theorem z122 :
  (∀ (ls : zL) (st : zS) (h : zH), zx 122 0 ls st h = zgo 122 (zpure (.aload_n 0) 1 0 [] ls st h)) ∧
  (∀ (ls : zL) (st : zS) (h : zH), zx 122 1 ls st h = zgo 122 (zpure (.getfield 125) 4 0 [6, 16] ls st h)) ∧
  (∀ (ls : zL) (st : zS) (h : zH), zx 122 4 ls st h = zgo 122 (zpure (.aload_n 0) 5 0 [] ls st h)) ∧
  (∀ (ls : zL) (st : zS) (h : zH), zx 122 5 ls st h = zgo 122 (zpure (.getfield 19) 8 0 [6, 3] ls st h)) ∧
  (∀ (ls : zL) (st : zS) (h : zH), zx 122 8 ls st h = zgo 122 (zpure (.iload_n 1) 9 0 [] ls st h)) ∧
  (∀ (ls : zL) (st : zS) (h : zH), zx 122 9 ls st h = zgo 122 (zpure .iaload 10 0 [] ls st h)) ∧
  (∀ (ls : zL) (st : zS) (h : zH), zx 122 10 ls st h = zgo 122 (zpure (.aload_n 0) 11 0 [] ls st h)) ∧
  (∀ (ls : zL) (st : zS) (h : zH), zx 122 11 ls st h = zgo 122 (zpure (.getfield 22) 14 0 [6, 4] ls st h)) ∧
  (∀ (ls : zL) (st : zS) (h : zH), zx 122 14 ls st h = zgo 122 (zpure (.iload_n 1) 15 0 [] ls st h)) ∧
  (∀ (ls : zL) (st : zS) (h : zH), zx 122 15 ls st h = zgo 122 (zpure .iaload 16 0 [] ls st h)) ∧
  (∀ (ls : zL) (st : zS) (h : zH), zx 122 16 ls st h = zca 122 16 19 ls 105 3 0 (ztake 3 st) h) ∧
  (∀ (ls : zL) (st : zS) (h : zH), zx 122 19 ls st h = zret 1 st h) :=
  ⟨zx_0 rfl, zx_0 rfl, zx_0 rfl, zx_0 rfl, zx_0 rfl, zx_0 rfl, zx_0 rfl, zx_0 rfl, zx_0 rfl, zx_0 rfl, zx_2c rfl, zx_1 rfl⟩
theorem z123_6 : ∀ (ls : zL) (st : zS) (h : zH), zx 123 6 ls st h = zgo 123 (zpure (.iload 5) 8 0 [] ls st h) := zx_0 rfl
/-- X6_deviationOf -/
theorem z123 :
  (∀ (ls : zL) (st : zS) (h : zH), zx 123 0 ls st h = zgo 123 (zpure (.fconst 0) 1 0 [] ls st h)) ∧
  (∀ (ls : zL) (st : zS) (h : zH), zx 123 1 ls st h = zgo 123 (zpure (.fstore 4) 3 0 [] ls st h)) ∧
  (∀ (ls : zL) (st : zS) (h : zH), zx 123 3 ls st h = zgo 123 (zpure (.iconst 0) 4 0 [] ls st h)) ∧
  (∀ (ls : zL) (st : zS) (h : zH), zx 123 4 ls st h = zgo 123 (zpure (.istore 5) 6 0 [] ls st h)) ∧
  (∀ (ls : zL) (st : zS) (h : zH), zx 123 8 ls st h = zgo 123 (zpure (.aload_n 0) 9 0 [] ls st h)) ∧
  (∀ (ls : zL) (st : zS) (h : zH), zx 123 9 ls st h = zgo 123 (zpure (.getfield 92) 12 0 [6, 7] ls st h)) ∧
  (∀ (ls : zL) (st : zS) (h : zH), zx 123 12 ls st h = zgo 123 (zpure (.if_icmp .ge 40) 15 52 [] ls st h)) ∧
  (∀ (ls : zL) (st : zS) (h : zH), zx 123 15 ls st h = zgo 123 (zpure (.iload_n 1) 16 0 [] ls st h)) ∧
  (∀ (ls : zL) (st : zS) (h : zH), zx 123 16 ls st h = zgo 123 (zpure (.iload 5) 18 0 [] ls st h)) ∧
  (∀ (ls : zL) (st : zS) (h : zH), zx 123 18 ls st h = zgo 123 (zpure .ishr 19 0 [] ls st h)) ∧
  (∀ (ls : zL) (st : zS) (h : zH), zx 123 19 ls st h = zgo 123 (zpure (.iconst 1) 20 0 [] ls st h)) ∧
  (∀ (ls : zL) (st : zS) (h : zH), zx 123 20 ls st h = zgo 123 (zpure .iand 21 0 [] ls st h)) ∧
  (∀ (ls : zL) (st : zS) (h : zH), zx 123 21 ls st h = zgo 123 (zpure (.iconst 1) 22 0 [] ls st h)) ∧
  (∀ (ls : zL) (st : zS) (h : zH), zx 123 22 ls st h = zgo 123 (zpure (.if_icmp .ne 24) 25 46 [] ls st h)) ∧
  (∀ (ls : zL) (st : zS) (h : zH), zx 123 25 ls st h = zgo 123 (zpure (.fload 4) 27 0 [] ls st h)) ∧
  (∀ (ls : zL) (st : zS) (h : zH), zx 123 27 ls st h = zgo 123 (zpure (.aload_n 0) 28 0 [] ls st h)) ∧
  (∀ (ls : zL) (st : zS) (h : zH), zx 123 28 ls st h = zgo 123 (zpure (.getfield 13) 31 0 [6, 1] ls st h)) ∧
  (∀ (ls : zL) (st : zS) (h : zH), zx 123 31 ls st h = zgo 123 (zpure (.iload 5) 33 0 [] ls st h)) ∧
  (∀ (ls : zL) (st : zS) (h : zH), zx 123 33 ls st h = zgo 123 (zpure .iaload 34 0 [] ls st h)) ∧
  (∀ (ls : zL) (st : zS) (h : zH), zx 123 34 ls st h = zgo 123 (zpure (.aload_n 0) 35 0 [] ls st h)) ∧
  (∀ (ls : zL) (st : zS) (h : zH), zx 123 35 ls st h = zgo 123 (zpure (.getfield 9) 38 0 [6, 0] ls st h)) ∧
  (∀ (ls : zL) (st : zS) (h : zH), zx 123 38 ls st h = zgo 123 (zpure (.iload 5) 40 0 [] ls st h)) ∧
  (∀ (ls : zL) (st : zS) (h : zH), zx 123 40 ls st h = zgo 123 (zpure .iaload 41 0 [] ls st h)) ∧
  (∀ (ls : zL) (st : zS) (h : zH), zx 123 41 ls st h = zgo 123 (zpure .imul 42 0 [] ls st h)) ∧
  (∀ (ls : zL) (st : zS) (h : zH), zx 123 42 ls st h = zgo 123 (zpure .i2f 43 0 [] ls st h)) ∧
  (∀ (ls : zL) (st : zS) (h : zH), zx 123 43 ls st h = zgo 123 (zpure .fadd 44 0 [] ls st h)) ∧
  (∀ (ls : zL) (st : zS) (h : zH), zx 123 44 ls st h = zgo 123 (zpure (.fstore 4) 46 0 [] ls st h)) ∧
  (∀ (ls : zL) (st : zS) (h : zH), zx 123 46 ls st h = zgo 123 (zpure (.iinc 5 1) 49 0 [] ls st h)) ∧
  (∀ (ls : zL) (st : zS) (h : zH), zx 123 49 ls st h = zgo 123 (zpure (.goto (-43)) 52 6 [] ls st h)) ∧
  (∀ (ls : zL) (st : zS) (h : zH), zx 123 52 ls st h = zgo 123 (zpure (.fload 4) 54 0 [] ls st h)) ∧
  (∀ (ls : zL) (st : zS) (h : zH), zx 123 54 ls st h = zgo 123 (zpure (.iload_n 2) 55 0 [] ls st h)) ∧
  (∀ (ls : zL) (st : zS) (h : zH), zx 123 55 ls st h = zgo 123 (zpure .i2f 56 0 [] ls st h)) ∧
  (∀ (ls : zL) (st : zS) (h : zH), zx 123 56 ls st h = zgo 123 (zpure .fdiv 57 0 [] ls st h)) ∧
  (∀ (ls : zL) (st : zS) (h : zH), zx 123 57 ls st h = zgo 123 (zpure (.iload_n 3) 58 0 [] ls st h)) ∧
  (∀ (ls : zL) (st : zS) (h : zH), zx 123 58 ls st h = zgo 123 (zpure .i2f 59 0 [] ls st h)) ∧
  (∀ (ls : zL) (st : zS) (h : zH), zx 123 59 ls st h = zgo 123 (zpure .fsub 60 0 [] ls st h)) ∧
  (∀ (ls : zL) (st : zS) (h : zH), zx 123 60 ls st h = zgo 123 (zpure (.invokestatic 128) 63 0 [11] ls st h)) ∧
  (∀ (ls : zL) (st : zS) (h : zH), zx 123 63 ls st h = zret 5 st h) :=
  ⟨zx_0 rfl, zx_0 rfl, zx_0 rfl, zx_0 rfl, zx_0 rfl, zx_0 rfl, zx_0 rfl, zx_0 rfl, zx_0 rfl, zx_0 rfl, zx_0 rfl, zx_0 rfl, zx_0 rfl, zx_0 rfl, zx_0 rfl, zx_0 rfl, zx_0 rfl, zx_0 rfl, zx_0 rfl, zx_0 rfl, zx_0 rfl, zx_0 rfl, zx_0 rfl, zx_0 rfl, zx_0 rfl, zx_0 rfl, zx_0 rfl, zx_0 rfl, zx_0 rfl, zx_0 rfl, zx_0 rfl, zx_0 rfl, zx_0 rfl, zx_0 rfl, zx_0 rfl, zx_0 rfl, zx_0 rfl, zx_1 rfl⟩
/-- X6_isLower -/
theorem z124 :
  (∀ (ls : zL) (st : zS) (h : zH), zx 124 0 ls st h = zgo 124 (zpure (.iload_n 0) 1 0 [] ls st h)) ∧
  (∀ (ls : zL) (st : zS) (h : zH), zx 124 1 ls st h = zgo 124 (zpure (.iload_n 1) 2 0 [] ls st h)) ∧
  (∀ (ls : zL) (st : zS) (h : zH), zx 124 2 ls st h = zgo 124 (zpure .ixor 3 0 [] ls st h)) ∧
  (∀ (ls : zL) (st : zS) (h : zH), zx 124 3 ls st h = zgo 124 (zpure (.istore_n 2) 4 0 [] ls st h)) ∧
  (∀ (ls : zL) (st : zS) (h : zH), zx 124 4 ls st h = zgo 124 (zpure (.iload_n 0) 5 0 [] ls st h)) ∧
  (∀ (ls : zL) (st : zS) (h : zH), zx 124 5 ls st h = zgo 124 (zpure (.iload_n 2) 6 0 [] ls st h)) ∧
  (∀ (ls : zL) (st : zS) (h : zH), zx 124 6 ls st h = zgo 124 (zpure .iand 7 0 [] ls st h)) ∧
  (∀ (ls : zL) (st : zS) (h : zH), zx 124 7 ls st h = zgo 124 (zpure (.iload_n 2) 8 0 [] ls st h)) ∧
  (∀ (ls : zL) (st : zS) (h : zH), zx 124 8 ls st h = zgo 124 (zpure .ineg 9 0 [] ls st h)) ∧
  (∀ (ls : zL) (st : zS) (h : zH), zx 124 9 ls st h = zgo 124 (zpure .iand 10 0 [] ls st h)) ∧
  (∀ (ls : zL) (st : zS) (h : zH), zx 124 10 ls st h = zgo 124 (zpure (.ifCond .eq 7) 13 17 [] ls st h)) ∧
  (∀ (ls : zL) (st : zS) (h : zH), zx 124 13 ls st h = zgo 124 (zpure (.iconst 1) 14 0 [] ls st h)) ∧
  (∀ (ls : zL) (st : zS) (h : zH), zx 124 14 ls st h = zgo 124 (zpure (.goto 4) 17 18 [] ls st h)) ∧
  (∀ (ls : zL) (st : zS) (h : zH), zx 124 17 ls st h = zgo 124 (zpure (.iconst 0) 18 0 [] ls st h)) ∧
  (∀ (ls : zL) (st : zS) (h : zH), zx 124 18 ls st h = zret 1 st h) :=
  ⟨zx_0 rfl, zx_0 rfl, zx_0 rfl, zx_0 rfl, zx_0 rfl, zx_0 rfl, zx_0 rfl, zx_0 rfl, zx_0 rfl, zx_0 rfl, zx_0 rfl, zx_0 rfl, zx_0 rfl, zx_0 rfl, zx_1 rfl⟩
theorem z125_10 : ∀ (ls : zL) (st : zS) (h : zH), zx 125 10 ls st h = zgo 125 (zpure (.iload 4) 12 0 [] ls st h) := zx_0 rfl
theorem z125_58 : ∀ (ls : zL) (st : zS) (h : zH), zx 125 58 ls st h = zgo 125 (zpure (.iload 4) 60 0 [] ls st h) := zx_0 rfl
theorem z125_69 : ∀ (ls : zL) (st : zS) (h : zH), zx 125 69 ls st h = zgo 125 (zpure (.iload 6) 71 0 [] ls st h) := zx_0 rfl
/-- X6_fills -/
theorem z125 :
  (∀ (ls : zL) (st : zS) (h : zH), zx 125 0 ls st h = zgo 125 (zpure (.aload_n 0) 1 0 [] ls st h)) ∧
  (∀ (ls : zL) (st : zS) (h : zH), zx 125 1 ls st h = zgo 125 (zpure (.iconst 0) 2 0 [] ls st h)) ∧
  (∀ (ls : zL) (st : zS) (h : zH), zx 125 2 ls st h = zgo 125 (zpure (.putfield 131) 5 0 [6, 26, 0] ls st h)) ∧
  (∀ (ls : zL) (st : zS) (h : zH), zx 125 5 ls st h = zgo 125 (zpure (.iconst 0) 6 0 [] ls st h)) ∧
  (∀ (ls : zL) (st : zS) (h : zH), zx 125 6 ls st h = zgo 125 (zpure (.istore_n 3) 7 0 [] ls st h)) ∧
  (∀ (ls : zL) (st : zS) (h : zH), zx 125 7 ls st h = zgo 125 (zpure (.iconst 0) 8 0 [] ls st h)) ∧
  (∀ (ls : zL) (st : zS) (h : zH), zx 125 8 ls st h = zgo 125 (zpure (.istore 4) 10 0 [] ls st h)) ∧
  (∀ (ls : zL) (st : zS) (h : zH), zx 125 12 ls st h = zgo 125 (zpure (.aload_n 0) 13 0 [] ls st h)) ∧
  (∀ (ls : zL) (st : zS) (h : zH), zx 125 13 ls st h = zgo 125 (zpure (.getfield 92) 16 0 [6, 7] ls st h)) ∧
  (∀ (ls : zL) (st : zS) (h : zH), zx 125 16 ls st h = zgo 125 (zpure (.if_icmp .ge 39) 19 55 [] ls st h)) ∧
  (∀ (ls : zL) (st : zS) (h : zH), zx 125 19 ls st h = zgo 125 (zpure (.iload_n 3) 20 0 [] ls st h)) ∧
  (∀ (ls : zL) (st : zS) (h : zH), zx 125 20 ls st h = zgo 125 (zpure (.aload_n 0) 21 0 [] ls st h)) ∧
  (∀ (ls : zL) (st : zS) (h : zH), zx 125 21 ls st h = zgo 125 (zpure (.getfield 25) 24 0 [6, 5] ls st h)) ∧
  (∀ (ls : zL) (st : zS) (h : zH), zx 125 24 ls st h = zgo 125 (zpure (.iload 4) 26 0 [] ls st h)) ∧
  (∀ (ls : zL) (st : zS) (h : zH), zx 125 26 ls st h = zgo 125 (zpure .baload 27 0 [] ls st h)) ∧
  (∀ (ls : zL) (st : zS) (h : zH), zx 125 27 ls st h = zgo 125 (zpure (.ifCond .eq 19) 30 46 [] ls st h)) ∧
  (∀ (ls : zL) (st : zS) (h : zH), zx 125 30 ls st h = zgo 125 (zpure (.aload_n 0) 31 0 [] ls st h)) ∧
  (∀ (ls : zL) (st : zS) (h : zH), zx 125 31 ls st h = zgo 125 (zpure (.iload 4) 33 0 [] ls st h)) ∧
  (∀ (ls : zL) (st : zS) (h : zH), zx 125 33 ls st h = zca 125 33 36 ls 122 2 7 (ztake 2 st) h) ∧
  (∀ (ls : zL) (st : zS) (h : zH), zx 125 36 ls st h = zgo 125 (zpure (.ifCond .eq 10) 39 46 [] ls st h)) ∧
  (∀ (ls : zL) (st : zS) (h : zH), zx 125 39 ls st h = zgo 125 (zpure (.iconst 1) 40 0 [] ls st h)) ∧
  (∀ (ls : zL) (st : zS) (h : zH), zx 125 40 ls st h = zgo 125 (zpure (.iload 4) 42 0 [] ls st h)) ∧
  (∀ (ls : zL) (st : zS) (h : zH), zx 125 42 ls st h = zgo 125 (zpure .ishl 43 0 [] ls st h)) ∧
  (∀ (ls : zL) (st : zS) (h : zH), zx 125 43 ls st h = zgo 125 (zpure (.goto 4) 46 47 [] ls st h)) ∧
  (∀ (ls : zL) (st : zS) (h : zH), zx 125 46 ls st h = zgo 125 (zpure (.iconst 0) 47 0 [] ls st h)) ∧
  (∀ (ls : zL) (st : zS) (h : zH), zx 125 47 ls st h = zgo 125 (zpure .ior 48 0 [] ls st h)) ∧
  (∀ (ls : zL) (st : zS) (h : zH), zx 125 48 ls st h = zgo 125 (zpure (.istore_n 3) 49 0 [] ls st h)) ∧
  (∀ (ls : zL) (st : zS) (h : zH), zx 125 49 ls st h = zgo 125 (zpure (.iinc 4 1) 52 0 [] ls st h)) ∧
  (∀ (ls : zL) (st : zS) (h : zH), zx 125 52 ls st h = zgo 125 (zpure (.goto (-42)) 55 10 [] ls st h)) ∧
  (∀ (ls : zL) (st : zS) (h : zH), zx 125 55 ls st h = zgo 125 (zpure (.iload_n 3) 56 0 [] ls st h)) ∧
  (∀ (ls : zL) (st : zS) (h : zH), zx 125 56 ls st h = zgo 125 (zpure (.istore 4) 58 0 [] ls st h)) ∧
  (∀ (ls : zL) (st : zS) (h : zH), zx 125 60 ls st h = zgo 125 (zpure (.ifCond .eq 76) 63 136 [] ls st h)) ∧
  (∀ (ls : zL) (st : zS) (h : zH), zx 125 63 ls st h = zgo 125 (zpure (.iconst 0) 64 0 [] ls st h)) ∧
  (∀ (ls : zL) (st : zS) (h : zH), zx 125 64 ls st h = zgo 125 (zpure (.istore 5) 66 0 [] ls st h)) ∧
  (∀ (ls : zL) (st : zS) (h : zH), zx 125 66 ls st h = zgo 125 (zpure (.iconst 0) 67 0 [] ls st h)) ∧
  (∀ (ls : zL) (st : zS) (h : zH), zx 125 67 ls st h = zgo 125 (zpure (.istore 6) 69 0 [] ls st h)) ∧
  (∀ (ls : zL) (st : zS) (h : zH), zx 125 71 ls st h = zgo 125 (zpure (.aload_n 0) 72 0 [] ls st h)) ∧
  (∀ (ls : zL) (st : zS) (h : zH), zx 125 72 ls st h = zgo 125 (zpure (.getfield 92) 75 0 [6, 7] ls st h)) ∧
  (∀ (ls : zL) (st : zS) (h : zH), zx 125 75 ls st h = zgo 125 (zpure (.if_icmp .ge 36) 78 111 [] ls st h)) ∧
  (∀ (ls : zL) (st : zS) (h : zH), zx 125 78 ls st h = zgo 125 (zpure (.iload 5) 80 0 [] ls st h)) ∧
  (∀ (ls : zL) (st : zS) (h : zH), zx 125 80 ls st h = zgo 125 (zpure (.iload 4) 82 0 [] ls st h)) ∧
  (∀ (ls : zL) (st : zS) (h : zH), zx 125 82 ls st h = zgo 125 (zpure (.iload 6) 84 0 [] ls st h)) ∧
  (∀ (ls : zL) (st : zS) (h : zH), zx 125 84 ls st h = zgo 125 (zpure .ishr 85 0 [] ls st h)) ∧
  (∀ (ls : zL) (st : zS) (h : zH), zx 125 85 ls st h = zgo 125 (zpure (.iconst 1) 86 0 [] ls st h)) ∧
  (∀ (ls : zL) (st : zS) (h : zH), zx 125 86 ls st h = zgo 125 (zpure .iand 87 0 [] ls st h)) ∧
  (∀ (ls : zL) (st : zS) (h : zH), zx 125 87 ls st h = zgo 125 (zpure (.iconst 1) 88 0 [] ls st h)) ∧
  (∀ (ls : zL) (st : zS) (h : zH), zx 125 88 ls st h = zgo 125 (zpure (.if_icmp .ne 13) 91 101 [] ls st h)) ∧
  (∀ (ls : zL) (st : zS) (h : zH), zx 125 91 ls st h = zgo 125 (zpure (.aload_n 0) 92 0 [] ls st h)) ∧
  (∀ (ls : zL) (st : zS) (h : zH), zx 125 92 ls st h = zgo 125 (zpure (.getfield 9) 95 0 [6, 0] ls st h)) ∧
  (∀ (ls : zL) (st : zS) (h : zH), zx 125 95 ls st h = zgo 125 (zpure (.iload 6) 97 0 [] ls st h)) ∧
  (∀ (ls : zL) (st : zS) (h : zH), zx 125 97 ls st h = zgo 125 (zpure .iaload 98 0 [] ls st h)) ∧
  (∀ (ls : zL) (st : zS) (h : zH), zx 125 98 ls st h = zgo 125 (zpure (.goto 4) 101 102 [] ls st h)) ∧
  (∀ (ls : zL) (st : zS) (h : zH), zx 125 101 ls st h = zgo 125 (zpure (.iconst 0) 102 0 [] ls st h)) ∧
  (∀ (ls : zL) (st : zS) (h : zH), zx 125 102 ls st h = zgo 125 (zpure .iadd 103 0 [] ls st h)) ∧
  (∀ (ls : zL) (st : zS) (h : zH), zx 125 103 ls st h = zgo 125 (zpure (.istore 5) 105 0 [] ls st h)) ∧
  (∀ (ls : zL) (st : zS) (h : zH), zx 125 105 ls st h = zgo 125 (zpure (.iinc 6 1) 108 0 [] ls st h)) ∧
  (∀ (ls : zL) (st : zS) (h : zH), zx 125 108 ls st h = zgo 125 (zpure (.goto (-39)) 111 69 [] ls st h)) ∧
  (∀ (ls : zL) (st : zS) (h : zH), zx 125 111 ls st h = zgo 125 (zpure (.iload 5) 113 0 [] ls st h)) ∧
  (∀ (ls : zL) (st : zS) (h : zH), zx 125 113 ls st h = zgo 125 (zpure (.iload_n 1) 114 0 [] ls st h)) ∧
  (∀ (ls : zL) (st : zS) (h : zH), zx 125 114 ls st h = zgo 125 (zpure (.if_icmp .ne 11) 117 125 [] ls st h)) ∧
  (∀ (ls : zL) (st : zS) (h : zH), zx 125 117 ls st h = zgo 125 (zpure (.aload_n 0) 118 0 [] ls st h)) ∧
  (∀ (ls : zL) (st : zS) (h : zH), zx 125 118 ls st h = zgo 125 (zpure (.iload 4) 120 0 [] ls st h)) ∧
  (∀ (ls : zL) (st : zS) (h : zH), zx 125 120 ls st h = zgo 125 (zpure (.iload_n 1) 121 0 [] ls st h)) ∧
  (∀ (ls : zL) (st : zS) (h : zH), zx 125 121 ls st h = zgo 125 (zpure (.iload_n 2) 122 0 [] ls st h)) ∧
  (∀ (ls : zL) (st : zS) (h : zH), zx 125 122 ls st h = zca 125 122 125 ls 126 6 7 (ztake 4 st) h) ∧
  (∀ (ls : zL) (st : zS) (h : zH), zx 125 125 ls st h = zgo 125 (zpure (.iload 4) 127 0 [] ls st h)) ∧
  (∀ (ls : zL) (st : zS) (h : zH), zx 125 127 ls st h = zgo 125 (zpure (.iconst 1) 128 0 [] ls st h)) ∧
  (∀ (ls : zL) (st : zS) (h : zH), zx 125 128 ls st h = zgo 125 (zpure .isub 129 0 [] ls st h)) ∧
  (∀ (ls : zL) (st : zS) (h : zH), zx 125 129 ls st h = zgo 125 (zpure (.iload_n 3) 130 0 [] ls st h)) ∧
  (∀ (ls : zL) (st : zS) (h : zH), zx 125 130 ls st h = zgo 125 (zpure .iand 131 0 [] ls st h)) ∧
  (∀ (ls : zL) (st : zS) (h : zH), zx 125 131 ls st h = zgo 125 (zpure (.istore 4) 133 0 [] ls st h)) ∧
  (∀ (ls : zL) (st : zS) (h : zH), zx 125 133 ls st h = zgo 125 (zpure (.goto (-75)) 136 58 [] ls st h)) ∧
  (∀ (ls : zL) (st : zS) (h : zH), zx 125 136 ls st h = zgo 125 (zpure (.aload_n 0) 137 0 [] ls st h)) ∧
  (∀ (ls : zL) (st : zS) (h : zH), zx 125 137 ls st h = zgo 125 (zpure (.getfield 131) 140 0 [6, 26] ls st h)) ∧
  (∀ (ls : zL) (st : zS) (h : zH), zx 125 140 ls st h = zgo 125 (zpure (.ifCond .eq 7) 143 147 [] ls st h)) ∧
  (∀ (ls : zL) (st : zS) (h : zH), zx 125 143 ls st h = zgo 125 (zpure (.iconst 1) 144 0 [] ls st h)) ∧
  (∀ (ls : zL) (st : zS) (h : zH), zx 125 144 ls st h = zgo 125 (zpure (.goto 4) 147 148 [] ls st h)) ∧
  (∀ (ls : zL) (st : zS) (h : zH), zx 125 147 ls st h = zgo 125 (zpure (.iconst 0) 148 0 [] ls st h)) ∧
  (∀ (ls : zL) (st : zS) (h : zH), zx 125 148 ls st h = zret 1 st h) :=
  ⟨zx_0 rfl, zx_0 rfl, zx_0 rfl, zx_0 rfl, zx_0 rfl, zx_0 rfl, zx_0 rfl, zx_0 rfl, zx_0 rfl, zx_0 rfl, zx_0 rfl, zx_0 rfl, zx_0 rfl, zx_0 rfl, zx_0 rfl, zx_0 rfl, zx_0 rfl, zx_0 rfl, zx_2c rfl, zx_0 rfl, zx_0 rfl, zx_0 rfl, zx_0 rfl, zx_0 rfl, zx_0 rfl, zx_0 rfl, zx_0 rfl, zx_0 rfl, zx_0 rfl, zx_0 rfl, zx_0 rfl, zx_0 rfl, zx_0 rfl, zx_0 rfl, zx_0 rfl, zx_0 rfl, zx_0 rfl, zx_0 rfl, zx_0 rfl, zx_0 rfl, zx_0 rfl, zx_0 rfl, zx_0 rfl, zx_0 rfl, zx_0 rfl, zx_0 rfl, zx_0 rfl, zx_0 rfl, zx_0 rfl, zx_0 rfl, zx_0 rfl, zx_0 rfl, zx_0 rfl, zx_0 rfl, zx_0 rfl, zx_0 rfl, zx_0 rfl, zx_0 rfl, zx_0 rfl, zx_0 rfl, zx_0 rfl, zx_0 rfl, zx_0 rfl, zx_0 rfl, zx_2c rfl, zx_0 rfl, zx_0 rfl, zx_0 rfl, zx_0 rfl, zx_0 rfl, zx_0 rfl, zx_0 rfl, zx_0 rfl, zx_0 rfl, zx_0 rfl, zx_0 rfl, zx_0 rfl, zx_0 rfl, zx_1 rfl⟩
/-- X6_takes -/
theorem z126 :
  (∀ (ls : zL) (st : zS) (h : zH), zx 126 0 ls st h = zgo 126 (zpure (.aload_n 0) 1 0 [] ls st h)) ∧
  (∀ (ls : zL) (st : zS) (h : zH), zx 126 1 ls st h = zgo 126 (zpure (.iload_n 1) 2 0 [] ls st h)) ∧
  (∀ (ls : zL) (st : zS) (h : zH), zx 126 2 ls st h = zgo 126 (zpure (.iload_n 2) 3 0 [] ls st h)) ∧
  (∀ (ls : zL) (st : zS) (h : zH), zx 126 3 ls st h = zgo 126 (zpure (.iload_n 3) 4 0 [] ls st h)) ∧
  (∀ (ls : zL) (st : zS) (h : zH), zx 126 4 ls st h = zca 126 4 7 ls 123 6 7 (ztake 4 st) h) ∧
  (∀ (ls : zL) (st : zS) (h : zH), zx 126 7 ls st h = zgo 126 (zpure (.fstore 4) 9 0 [] ls st h)) ∧
  (∀ (ls : zL) (st : zS) (h : zH), zx 126 9 ls st h = zgo 126 (zpure (.aload_n 0) 10 0 [] ls st h)) ∧
  (∀ (ls : zL) (st : zS) (h : zH), zx 126 10 ls st h = zgo 126 (zpure (.getfield 131) 13 0 [6, 26] ls st h)) ∧
  (∀ (ls : zL) (st : zS) (h : zH), zx 126 13 ls st h = zgo 126 (zpure (.ifCond .ne 7) 16 20 [] ls st h)) ∧
  (∀ (ls : zL) (st : zS) (h : zH), zx 126 16 ls st h = zgo 126 (zpure (.iconst (-1)) 17 0 [] ls st h)) ∧
  (∀ (ls : zL) (st : zS) (h : zH), zx 126 17 ls st h = zgo 126 (zpure (.goto 15) 20 32 [] ls st h)) ∧
  (∀ (ls : zL) (st : zS) (h : zH), zx 126 20 ls st h = zgo 126 (zpure (.iload_n 1) 21 0 [] ls st h)) ∧
  (∀ (ls : zL) (st : zS) (h : zH), zx 126 21 ls st h = zca 126 21 24 ls 182 1 0 (ztake 1 st) h) ∧
  (∀ (ls : zL) (st : zS) (h : zH), zx 126 24 ls st h = zgo 126 (zpure (.aload_n 0) 25 0 [] ls st h)) ∧
  (∀ (ls : zL) (st : zS) (h : zH), zx 126 25 ls st h = zgo 126 (zpure (.getfield 131) 28 0 [6, 26] ls st h)) ∧
  (∀ (ls : zL) (st : zS) (h : zH), zx 126 28 ls st h = zca 126 28 31 ls 182 1 0 (ztake 1 st) h) ∧
  (∀ (ls : zL) (st : zS) (h : zH), zx 126 31 ls st h = zgo 126 (zpure .isub 32 0 [] ls st h)) ∧
  (∀ (ls : zL) (st : zS) (h : zH), zx 126 32 ls st h = zgo 126 (zpure (.istore 5) 34 0 [] ls st h)) ∧
  (∀ (ls : zL) (st : zS) (h : zH), zx 126 34 ls st h = zgo 126 (zpure (.iload 5) 36 0 [] ls st h)) ∧
  (∀ (ls : zL) (st : zS) (h : zH), zx 126 36 ls st h = zgo 126 (zpure (.ifCond .lt 39) 39 75 [] ls st h)) ∧
  (∀ (ls : zL) (st : zS) (h : zH), zx 126 39 ls st h = zgo 126 (zpure (.iload 5) 41 0 [] ls st h)) ∧
  (∀ (ls : zL) (st : zS) (h : zH), zx 126 41 ls st h = zgo 126 (zpure (.ifCond .ne 45) 44 86 [] ls st h)) ∧
  (∀ (ls : zL) (st : zS) (h : zH), zx 126 44 ls st h = zgo 126 (zpure (.fload 4) 46 0 [] ls st h)) ∧
  (∀ (ls : zL) (st : zS) (h : zH), zx 126 46 ls st h = zgo 126 (zpure (.aload_n 0) 47 0 [] ls st h)) ∧
  (∀ (ls : zL) (st : zS) (h : zH), zx 126 47 ls st h = zgo 126 (zpure (.getfield 150) 50 0 [6, 27] ls st h)) ∧
  (∀ (ls : zL) (st : zS) (h : zH), zx 126 50 ls st h = zgo 126 (zpure (.fcmp .g) 51 0 [] ls st h)) ∧
  (∀ (ls : zL) (st : zS) (h : zH), zx 126 51 ls st h = zgo 126 (zpure (.ifCond .lt 24) 54 75 [] ls st h)) ∧
  (∀ (ls : zL) (st : zS) (h : zH), zx 126 54 ls st h = zgo 126 (zpure (.fload 4) 56 0 [] ls st h)) ∧
  (∀ (ls : zL) (st : zS) (h : zH), zx 126 56 ls st h = zgo 126 (zpure (.aload_n 0) 57 0 [] ls st h)) ∧
  (∀ (ls : zL) (st : zS) (h : zH), zx 126 57 ls st h = zgo 126 (zpure (.getfield 150) 60 0 [6, 27] ls st h)) ∧
  (∀ (ls : zL) (st : zS) (h : zH), zx 126 60 ls st h = zgo 126 (zpure (.fcmp .l) 61 0 [] ls st h)) ∧
  (∀ (ls : zL) (st : zS) (h : zH), zx 126 61 ls st h = zgo 126 (zpure (.ifCond .ne 25) 64 86 [] ls st h)) ∧
  (∀ (ls : zL) (st : zS) (h : zH), zx 126 64 ls st h = zgo 126 (zpure (.iload_n 1) 65 0 [] ls st h)) ∧
  (∀ (ls : zL) (st : zS) (h : zH), zx 126 65 ls st h = zgo 126 (zpure (.aload_n 0) 66 0 [] ls st h)) ∧
  (∀ (ls : zL) (st : zS) (h : zH), zx 126 66 ls st h = zgo 126 (zpure (.getfield 131) 69 0 [6, 26] ls st h)) ∧
  (∀ (ls : zL) (st : zS) (h : zH), zx 126 69 ls st h = zca 126 69 72 ls 124 3 0 (ztake 2 st) h) ∧
  (∀ (ls : zL) (st : zS) (h : zH), zx 126 72 ls st h = zgo 126 (zpure (.ifCond .eq 14) 75 86 [] ls st h)) ∧
  (∀ (ls : zL) (st : zS) (h : zH), zx 126 75 ls st h = zgo 126 (zpure (.aload_n 0) 76 0 [] ls st h)) ∧
  (∀ (ls : zL) (st : zS) (h : zH), zx 126 76 ls st h = zgo 126 (zpure (.iload_n 1) 77 0 [] ls st h)) ∧
  (∀ (ls : zL) (st : zS) (h : zH), zx 126 77 ls st h = zgo 126 (zpure (.putfield 131) 80 0 [6, 26, 0] ls st h)) ∧
  (∀ (ls : zL) (st : zS) (h : zH), zx 126 80 ls st h = zgo 126 (zpure (.aload_n 0) 81 0 [] ls st h)) ∧
  (∀ (ls : zL) (st : zS) (h : zH), zx 126 81 ls st h = zgo 126 (zpure (.fload 4) 83 0 [] ls st h)) ∧
  (∀ (ls : zL) (st : zS) (h : zH), zx 126 83 ls st h = zgo 126 (zpure (.putfield 150) 86 0 [6, 27, 5] ls st h)) ∧
  (∀ (ls : zL) (st : zS) (h : zH), zx 126 86 ls st h = zret 8 st h) :=
  ⟨zx_0 rfl, zx_0 rfl, zx_0 rfl, zx_0 rfl, zx_2c rfl, zx_0 rfl, zx_0 rfl, zx_0 rfl, zx_0 rfl, zx_0 rfl, zx_0 rfl, zx_0 rfl, zx_2c rfl, zx_0 rfl, zx_0 rfl, zx_2c rfl, zx_0 rfl, zx_0 rfl, zx_0 rfl, zx_0 rfl, zx_0 rfl, zx_0 rfl, zx_0 rfl, zx_0 rfl, zx_0 rfl, zx_0 rfl, zx_0 rfl, zx_0 rfl, zx_0 rfl, zx_0 rfl, zx_0 rfl, zx_0 rfl, zx_0 rfl, zx_0 rfl, zx_0 rfl, zx_2c rfl, zx_0 rfl, zx_0 rfl, zx_0 rfl, zx_0 rfl, zx_0 rfl, zx_0 rfl, zx_0 rfl, zx_1 rfl⟩
/-- X6_asks -/
theorem z127 :
  (∀ (ls : zL) (st : zS) (h : zH), zx 127 0 ls st h = zgo 127 (zpure (.aload_n 0) 1 0 [] ls st h)) ∧
  (∀ (ls : zL) (st : zS) (h : zH), zx 127 1 ls st h = zgo 127 (zpure (.iload_n 1) 2 0 [] ls st h)) ∧
  (∀ (ls : zL) (st : zS) (h : zH), zx 127 2 ls st h = zgo 127 (zpure (.iconst 1) 3 0 [] ls st h)) ∧
  (∀ (ls : zL) (st : zS) (h : zH), zx 127 3 ls st h = zgo 127 (zpure (.sipush 3600) 6 0 [] ls st h)) ∧
  (∀ (ls : zL) (st : zS) (h : zH), zx 127 6 ls st h = zca 127 6 9 ls 105 3 0 (ztake 3 st) h) ∧
  (∀ (ls : zL) (st : zS) (h : zH), zx 127 9 ls st h = zgo 127 (zpure (.ifCond .eq 13) 12 22 [] ls st h)) ∧
  (∀ (ls : zL) (st : zS) (h : zH), zx 127 12 ls st h = zgo 127 (zpure (.iload_n 2) 13 0 [] ls st h)) ∧
  (∀ (ls : zL) (st : zS) (h : zH), zx 127 13 ls st h = zgo 127 (zpure (.bipush (-60)) 15 0 [] ls st h)) ∧
  (∀ (ls : zL) (st : zS) (h : zH), zx 127 15 ls st h = zgo 127 (zpure (.iconst 0) 16 0 [] ls st h)) ∧
  (∀ (ls : zL) (st : zS) (h : zH), zx 127 16 ls st h = zca 127 16 19 ls 105 3 0 (ztake 3 st) h) ∧
  (∀ (ls : zL) (st : zS) (h : zH), zx 127 19 ls st h = zgo 127 (zpure (.ifCond .ne 7) 22 26 [] ls st h)) ∧
  (∀ (ls : zL) (st : zS) (h : zH), zx 127 22 ls st h = zgo 127 (zpure (.iconst 1) 23 0 [] ls st h)) ∧
  (∀ (ls : zL) (st : zS) (h : zH), zx 127 23 ls st h = zgo 127 (zpure (.goto 17) 26 40 [] ls st h)) ∧
  (∀ (ls : zL) (st : zS) (h : zH), zx 127 26 ls st h = zgo 127 (zpure (.aload_n 0) 27 0 [] ls st h)) ∧
  (∀ (ls : zL) (st : zS) (h : zH), zx 127 27 ls st h = zgo 127 (zpure (.iload_n 1) 28 0 [] ls st h)) ∧
  (∀ (ls : zL) (st : zS) (h : zH), zx 127 28 ls st h = zgo 127 (zpure (.iload_n 2) 29 0 [] ls st h)) ∧
  (∀ (ls : zL) (st : zS) (h : zH), zx 127 29 ls st h = zca 127 29 32 ls 125 7 7 (ztake 3 st) h) ∧
  (∀ (ls : zL) (st : zS) (h : zH), zx 127 32 ls st h = zgo 127 (zpure (.ifCond .ne 7) 35 39 [] ls st h)) ∧
  (∀ (ls : zL) (st : zS) (h : zH), zx 127 35 ls st h = zgo 127 (zpure (.iconst 2) 36 0 [] ls st h)) ∧
  (∀ (ls : zL) (st : zS) (h : zH), zx 127 36 ls st h = zgo 127 (zpure (.goto 4) 39 40 [] ls st h)) ∧
  (∀ (ls : zL) (st : zS) (h : zH), zx 127 39 ls st h = zgo 127 (zpure (.iconst 0) 40 0 [] ls st h)) ∧
  (∀ (ls : zL) (st : zS) (h : zH), zx 127 40 ls st h = zgo 127 (zpure (.putfield 84) 43 0 [6, 32, 0] ls st h)) ∧
  (∀ (ls : zL) (st : zS) (h : zH), zx 127 43 ls st h = zgo 127 (zpure (.aload_n 0) 44 0 [] ls st h)) ∧
  (∀ (ls : zL) (st : zS) (h : zH), zx 127 44 ls st h = zgo 127 (zpure (.getfield 84) 47 0 [6, 32] ls st h)) ∧
  (∀ (ls : zL) (st : zS) (h : zH), zx 127 47 ls st h = zgo 127 (zpure (.ifCond .ne 7) 50 54 [] ls st h)) ∧
  (∀ (ls : zL) (st : zS) (h : zH), zx 127 50 ls st h = zgo 127 (zpure (.iconst 1) 51 0 [] ls st h)) ∧
  (∀ (ls : zL) (st : zS) (h : zH), zx 127 51 ls st h = zgo 127 (zpure (.goto 4) 54 55 [] ls st h)) ∧
  (∀ (ls : zL) (st : zS) (h : zH), zx 127 54 ls st h = zgo 127 (zpure (.iconst 0) 55 0 [] ls st h)) ∧
  (∀ (ls : zL) (st : zS) (h : zH), zx 127 55 ls st h = zret 1 st h) :=
  ⟨zx_0 rfl, zx_0 rfl, zx_0 rfl, zx_0 rfl, zx_2c rfl, zx_0 rfl, zx_0 rfl, zx_0 rfl, zx_0 rfl, zx_2c rfl, zx_0 rfl, zx_0 rfl, zx_0 rfl, zx_0 rfl, zx_0 rfl, zx_0 rfl, zx_2c rfl, zx_0 rfl, zx_0 rfl, zx_0 rfl, zx_0 rfl, zx_0 rfl, zx_0 rfl, zx_0 rfl, zx_0 rfl, zx_0 rfl, zx_0 rfl, zx_0 rfl, zx_1 rfl⟩
/-- X6_fill -/
theorem z128 :
  (∀ (ls : zL) (st : zS) (h : zH), zx 128 0 ls st h = zgo 128 (zpure (.aload_n 0) 1 0 [] ls st h)) ∧
  (∀ (ls : zL) (st : zS) (h : zH), zx 128 1 ls st h = zgo 128 (zpure (.iload_n 1) 2 0 [] ls st h)) ∧
  (∀ (ls : zL) (st : zS) (h : zH), zx 128 2 ls st h = zgo 128 (zpure (.iload_n 2) 3 0 [] ls st h)) ∧
  (∀ (ls : zL) (st : zS) (h : zH), zx 128 3 ls st h = zca 128 3 6 ls 127 3 7 (ztake 3 st) h) ∧
  (∀ (ls : zL) (st : zS) (h : zH), zx 128 6 ls st h = zgo 128 (zpure (.ifCond .eq 13) 9 19 [] ls st h)) ∧
  (∀ (ls : zL) (st : zS) (h : zH), zx 128 9 ls st h = zgo 128 (zpure (.aload_n 0) 10 0 [] ls st h)) ∧
  (∀ (ls : zL) (st : zS) (h : zH), zx 128 10 ls st h = zgo 128 (zpure (.getfield 131) 13 0 [6, 26] ls st h)) ∧
  (∀ (ls : zL) (st : zS) (h : zH), zx 128 13 ls st h = zca 128 13 16 ls 182 1 0 (ztake 1 st) h) ∧
  (∀ (ls : zL) (st : zS) (h : zH), zx 128 16 ls st h = zgo 128 (zpure (.goto 4) 19 20 [] ls st h)) ∧
  (∀ (ls : zL) (st : zS) (h : zH), zx 128 19 ls st h = zgo 128 (zpure (.iconst 0) 20 0 [] ls st h)) ∧
  (∀ (ls : zL) (st : zS) (h : zH), zx 128 20 ls st h = zret 0 st h) :=
  ⟨zx_0 rfl, zx_0 rfl, zx_0 rfl, zx_2c rfl, zx_0 rfl, zx_0 rfl, zx_0 rfl, zx_2c rfl, zx_0 rfl, zx_0 rfl, zx_1 rfl⟩
/-- X6_fillByTrying -/
theorem z129 :
  (∀ (ls : zL) (st : zS) (h : zH), zx 129 0 ls st h = zgo 129 (zpure (.aload_n 0) 1 0 [] ls st h)) ∧
  (∀ (ls : zL) (st : zS) (h : zH), zx 129 1 ls st h = zgo 129 (zpure (.iload_n 1) 2 0 [] ls st h)) ∧
  (∀ (ls : zL) (st : zS) (h : zH), zx 129 2 ls st h = zgo 129 (zpure (.iload_n 2) 3 0 [] ls st h)) ∧
  (∀ (ls : zL) (st : zS) (h : zH), zx 129 3 ls st h = zca 129 3 6 ls 128 3 7 (ztake 3 st) h) ∧
  (∀ (ls : zL) (st : zS) (h : zH), zx 129 6 ls st h = zret 0 st h) :=
  ⟨zx_0 rfl, zx_0 rfl, zx_0 rfl, zx_2c rfl, zx_1 rfl⟩
theorem z130_17 : ∀ (ls : zL) (st : zS) (h : zH), zx 130 17 ls st h = zgo 130 (zpure (.iload 5) 19 0 [] ls st h) := zx_0 rfl
/-- X6_fillAt -/
theorem z130 :
  (∀ (ls : zL) (st : zS) (h : zH), zx 130 0 ls st h = zgo 130 (zpure (.aload_n 0) 1 0 [] ls st h)) ∧
  (∀ (ls : zL) (st : zS) (h : zH), zx 130 1 ls st h = zgo 130 (zpure (.iload_n 1) 2 0 [] ls st h)) ∧
  (∀ (ls : zL) (st : zS) (h : zH), zx 130 2 ls st h = zgo 130 (zpure (.iload_n 2) 3 0 [] ls st h)) ∧
  (∀ (ls : zL) (st : zS) (h : zH), zx 130 3 ls st h = zca 130 3 6 ls 127 3 7 (ztake 3 st) h) ∧
  (∀ (ls : zL) (st : zS) (h : zH), zx 130 6 ls st h = zgo 130 (zpure (.ifCond .ne 5) 9 11 [] ls st h)) ∧
  (∀ (ls : zL) (st : zS) (h : zH), zx 130 9 ls st h = zgo 130 (zpure (.iconst 0) 10 0 [] ls st h)) ∧
  (∀ (ls : zL) (st : zS) (h : zH), zx 130 10 ls st h = zret 0 st h) ∧
  (∀ (ls : zL) (st : zS) (h : zH), zx 130 11 ls st h = zgo 130 (zpure (.iload_n 3) 12 0 [] ls st h)) ∧
  (∀ (ls : zL) (st : zS) (h : zH), zx 130 12 ls st h = zgo 130 (zpure (.istore 4) 14 0 [] ls st h)) ∧
  (∀ (ls : zL) (st : zS) (h : zH), zx 130 14 ls st h = zgo 130 (zpure (.iconst 0) 15 0 [] ls st h)) ∧
  (∀ (ls : zL) (st : zS) (h : zH), zx 130 15 ls st h = zgo 130 (zpure (.istore 5) 17 0 [] ls st h)) ∧
  (∀ (ls : zL) (st : zS) (h : zH), zx 130 19 ls st h = zgo 130 (zpure (.aload_n 0) 20 0 [] ls st h)) ∧
  (∀ (ls : zL) (st : zS) (h : zH), zx 130 20 ls st h = zgo 130 (zpure (.getfield 92) 23 0 [6, 7] ls st h)) ∧
  (∀ (ls : zL) (st : zS) (h : zH), zx 130 23 ls st h = zgo 130 (zpure (.if_icmp .ge 33) 26 56 [] ls st h)) ∧
  (∀ (ls : zL) (st : zS) (h : zH), zx 130 26 ls st h = zgo 130 (zpure (.aload_n 0) 27 0 [] ls st h)) ∧
  (∀ (ls : zL) (st : zS) (h : zH), zx 130 27 ls st h = zgo 130 (zpure (.getfield 131) 30 0 [6, 26] ls st h)) ∧
  (∀ (ls : zL) (st : zS) (h : zH), zx 130 30 ls st h = zgo 130 (zpure (.iload 5) 32 0 [] ls st h)) ∧
  (∀ (ls : zL) (st : zS) (h : zH), zx 130 32 ls st h = zgo 130 (zpure .ishr 33 0 [] ls st h)) ∧
  (∀ (ls : zL) (st : zS) (h : zH), zx 130 33 ls st h = zgo 130 (zpure (.iconst 1) 34 0 [] ls st h)) ∧
  (∀ (ls : zL) (st : zS) (h : zH), zx 130 34 ls st h = zgo 130 (zpure .iand 35 0 [] ls st h)) ∧
  (∀ (ls : zL) (st : zS) (h : zH), zx 130 35 ls st h = zgo 130 (zpure (.iconst 1) 36 0 [] ls st h)) ∧
  (∀ (ls : zL) (st : zS) (h : zH), zx 130 36 ls st h = zgo 130 (zpure (.if_icmp .ne 14) 39 50 [] ls st h)) ∧
  (∀ (ls : zL) (st : zS) (h : zH), zx 130 39 ls st h = zgo 130 (zpure (.iload 4) 41 0 [] ls st h)) ∧
  (∀ (ls : zL) (st : zS) (h : zH), zx 130 41 ls st h = zgo 130 (zpure (.ifCond .ne 6) 44 47 [] ls st h)) ∧
  (∀ (ls : zL) (st : zS) (h : zH), zx 130 44 ls st h = zgo 130 (zpure (.iload 5) 46 0 [] ls st h)) ∧
  (∀ (ls : zL) (st : zS) (h : zH), zx 130 46 ls st h = zret 0 st h) ∧
  (∀ (ls : zL) (st : zS) (h : zH), zx 130 47 ls st h = zgo 130 (zpure (.iinc 4 (-1)) 50 0 [] ls st h)) ∧
  (∀ (ls : zL) (st : zS) (h : zH), zx 130 50 ls st h = zgo 130 (zpure (.iinc 5 1) 53 0 [] ls st h)) ∧
  (∀ (ls : zL) (st : zS) (h : zH), zx 130 53 ls st h = zgo 130 (zpure (.goto (-36)) 56 17 [] ls st h)) ∧
  (∀ (ls : zL) (st : zS) (h : zH), zx 130 56 ls st h = zgo 130 (zpure (.aload_n 0) 57 0 [] ls st h)) ∧
  (∀ (ls : zL) (st : zS) (h : zH), zx 130 57 ls st h = zgo 130 (zpure (.iconst 2) 58 0 [] ls st h)) ∧
  (∀ (ls : zL) (st : zS) (h : zH), zx 130 58 ls st h = zca 130 58 61 ls 104 2 7 (ztake 2 st) h) ∧
  (∀ (ls : zL) (st : zS) (h : zH), zx 130 61 ls st h = zret 0 st h) :=
  ⟨zx_0 rfl, zx_0 rfl, zx_0 rfl, zx_2c rfl, zx_0 rfl, zx_0 rfl, zx_1 rfl, zx_0 rfl, zx_0 rfl, zx_0 rfl, zx_0 rfl, zx_0 rfl, zx_0 rfl, zx_0 rfl, zx_0 rfl, zx_0 rfl, zx_0 rfl, zx_0 rfl, zx_0 rfl, zx_0 rfl, zx_0 rfl, zx_0 rfl, zx_0 rfl, zx_0 rfl, zx_0 rfl, zx_1 rfl, zx_0 rfl, zx_0 rfl, zx_0 rfl, zx_0 rfl, zx_0 rfl, zx_2c rfl, zx_1 rfl⟩
/-- X6_deviation -/
theorem z131 :
  (∀ (ls : zL) (st : zS) (h : zH), zx 131 0 ls st h = zgo 131 (zpure (.aload_n 0) 1 0 [] ls st h)) ∧
  (∀ (ls : zL) (st : zS) (h : zH), zx 131 1 ls st h = zgo 131 (zpure (.iload_n 1) 2 0 [] ls st h)) ∧
  (∀ (ls : zL) (st : zS) (h : zH), zx 131 2 ls st h = zgo 131 (zpure (.iload_n 2) 3 0 [] ls st h)) ∧
  (∀ (ls : zL) (st : zS) (h : zH), zx 131 3 ls st h = zca 131 3 6 ls 127 3 7 (ztake 3 st) h) ∧
  (∀ (ls : zL) (st : zS) (h : zH), zx 131 6 ls st h = zgo 131 (zpure (.ifCond .eq 10) 9 16 [] ls st h)) ∧
  (∀ (ls : zL) (st : zS) (h : zH), zx 131 9 ls st h = zgo 131 (zpure (.aload_n 0) 10 0 [] ls st h)) ∧
  (∀ (ls : zL) (st : zS) (h : zH), zx 131 10 ls st h = zgo 131 (zpure (.getfield 150) 13 0 [6, 27] ls st h)) ∧
  (∀ (ls : zL) (st : zS) (h : zH), zx 131 13 ls st h = zgo 131 (zpure (.goto 4) 16 17 [] ls st h)) ∧
  (∀ (ls : zL) (st : zS) (h : zH), zx 131 16 ls st h = zgo 131 (zpure (.fconst 0) 17 0 [] ls st h)) ∧
  (∀ (ls : zL) (st : zS) (h : zH), zx 131 17 ls st h = zret 5 st h) :=
  ⟨zx_0 rfl, zx_0 rfl, zx_0 rfl, zx_2c rfl, zx_0 rfl, zx_0 rfl, zx_0 rfl, zx_0 rfl, zx_0 rfl, zx_1 rfl⟩
/-- X6_lays -/
theorem z132 :
  (∀ (ls : zL) (st : zS) (h : zH), zx 132 0 ls st h = zgo 132 (zpure (.aload_n 0) 1 0 [] ls st h)) ∧
  (∀ (ls : zL) (st : zS) (h : zH), zx 132 1 ls st h = zgo 132 (zpure (.getfield 54) 4 0 [6, 17] ls st h)) ∧
  (∀ (ls : zL) (st : zS) (h : zH), zx 132 4 ls st h = zgo 132 (zpure (.aload_n 0) 5 0 [] ls st h)) ∧
  (∀ (ls : zL) (st : zS) (h : zH), zx 132 5 ls st h = zgo 132 (zpure (.getfield 171) 8 0 [6, 21] ls st h)) ∧
  (∀ (ls : zL) (st : zS) (h : zH), zx 132 8 ls st h = zgo 132 (zpure (.iload_n 1) 9 0 [] ls st h)) ∧
  (∀ (ls : zL) (st : zS) (h : zH), zx 132 9 ls st h = zgo 132 (zpure .iastore 10 0 [] ls st h)) ∧
  (∀ (ls : zL) (st : zS) (h : zH), zx 132 10 ls st h = zgo 132 (zpure (.aload_n 0) 11 0 [] ls st h)) ∧
  (∀ (ls : zL) (st : zS) (h : zH), zx 132 11 ls st h = zgo 132 (zpure (.getfield 63) 14 0 [6, 20] ls st h)) ∧
  (∀ (ls : zL) (st : zS) (h : zH), zx 132 14 ls st h = zgo 132 (zpure (.aload_n 0) 15 0 [] ls st h)) ∧
  (∀ (ls : zL) (st : zS) (h : zH), zx 132 15 ls st h = zgo 132 (zpure (.getfield 171) 18 0 [6, 21] ls st h)) ∧
  (∀ (ls : zL) (st : zS) (h : zH), zx 132 18 ls st h = zgo 132 (zpure (.iload_n 2) 19 0 [] ls st h)) ∧
  (∀ (ls : zL) (st : zS) (h : zH), zx 132 19 ls st h = zgo 132 (zpure .iastore 20 0 [] ls st h)) ∧
  (∀ (ls : zL) (st : zS) (h : zH), zx 132 20 ls st h = zgo 132 (zpure (.aload_n 0) 21 0 [] ls st h)) ∧
  (∀ (ls : zL) (st : zS) (h : zH), zx 132 21 ls st h = zgo 132 (zpure (.getfield 57) 24 0 [6, 18] ls st h)) ∧
  (∀ (ls : zL) (st : zS) (h : zH), zx 132 24 ls st h = zgo 132 (zpure (.aload_n 0) 25 0 [] ls st h)) ∧
  (∀ (ls : zL) (st : zS) (h : zH), zx 132 25 ls st h = zgo 132 (zpure (.getfield 171) 28 0 [6, 21] ls st h)) ∧
  (∀ (ls : zL) (st : zS) (h : zH), zx 132 28 ls st h = zgo 132 (zpure (.iload_n 3) 29 0 [] ls st h)) ∧
  (∀ (ls : zL) (st : zS) (h : zH), zx 132 29 ls st h = zgo 132 (zpure .iastore 30 0 [] ls st h)) ∧
  (∀ (ls : zL) (st : zS) (h : zH), zx 132 30 ls st h = zgo 132 (zpure (.aload_n 0) 31 0 [] ls st h)) ∧
  (∀ (ls : zL) (st : zS) (h : zH), zx 132 31 ls st h = zgo 132 (zpure (.getfield 60) 34 0 [6, 19] ls st h)) ∧
  (∀ (ls : zL) (st : zS) (h : zH), zx 132 34 ls st h = zgo 132 (zpure (.aload_n 0) 35 0 [] ls st h)) ∧
  (∀ (ls : zL) (st : zS) (h : zH), zx 132 35 ls st h = zgo 132 (zpure (.getfield 171) 38 0 [6, 21] ls st h)) ∧
  (∀ (ls : zL) (st : zS) (h : zH), zx 132 38 ls st h = zgo 132 (zpure (.iload 4) 40 0 [] ls st h)) ∧
  (∀ (ls : zL) (st : zS) (h : zH), zx 132 40 ls st h = zgo 132 (zpure .iastore 41 0 [] ls st h)) ∧
  (∀ (ls : zL) (st : zS) (h : zH), zx 132 41 ls st h = zgo 132 (zpure (.iload_n 2) 42 0 [] ls st h)) ∧
  (∀ (ls : zL) (st : zS) (h : zH), zx 132 42 ls st h = zgo 132 (zpure (.iconst (-1)) 43 0 [] ls st h)) ∧
  (∀ (ls : zL) (st : zS) (h : zH), zx 132 43 ls st h = zgo 132 (zpure (.if_icmp .eq 13) 46 56 [] ls st h)) ∧
  (∀ (ls : zL) (st : zS) (h : zH), zx 132 46 ls st h = zgo 132 (zpure (.aload_n 0) 47 0 [] ls st h)) ∧
  (∀ (ls : zL) (st : zS) (h : zH), zx 132 47 ls st h = zgo 132 (zpure (.getfield 75) 50 0 [6, 25] ls st h)) ∧
  (∀ (ls : zL) (st : zS) (h : zH), zx 132 50 ls st h = zgo 132 (zpure (.iload_n 2) 51 0 [] ls st h)) ∧
  (∀ (ls : zL) (st : zS) (h : zH), zx 132 51 ls st h = zgo 132 (zpure (.aload_n 0) 52 0 [] ls st h)) ∧
  (∀ (ls : zL) (st : zS) (h : zH), zx 132 52 ls st h = zgo 132 (zpure (.getfield 171) 55 0 [6, 21] ls st h)) ∧
  (∀ (ls : zL) (st : zS) (h : zH), zx 132 55 ls st h = zgo 132 (zpure .iastore 56 0 [] ls st h)) ∧
  (∀ (ls : zL) (st : zS) (h : zH), zx 132 56 ls st h = zgo 132 (zpure (.aload_n 0) 57 0 [] ls st h)) ∧
  (∀ (ls : zL) (st : zS) (h : zH), zx 132 57 ls st h = zgo 132 (zpure .dup 58 0 [] ls st h)) ∧
  (∀ (ls : zL) (st : zS) (h : zH), zx 132 58 ls st h = zgo 132 (zpure (.getfield 171) 61 0 [6, 21] ls st h)) ∧
  (∀ (ls : zL) (st : zS) (h : zH), zx 132 61 ls st h = zgo 132 (zpure (.iconst 1) 62 0 [] ls st h)) ∧
  (∀ (ls : zL) (st : zS) (h : zH), zx 132 62 ls st h = zgo 132 (zpure .iadd 63 0 [] ls st h)) ∧
  (∀ (ls : zL) (st : zS) (h : zH), zx 132 63 ls st h = zgo 132 (zpure (.putfield 171) 66 0 [6, 21, 0] ls st h)) ∧
  (∀ (ls : zL) (st : zS) (h : zH), zx 132 66 ls st h = zret 8 st h) :=
  ⟨zx_0 rfl, zx_0 rfl, zx_0 rfl, zx_0 rfl, zx_0 rfl, zx_0 rfl, zx_0 rfl, zx_0 rfl, zx_0 rfl, zx_0 rfl, zx_0 rfl, zx_0 rfl, zx_0 rfl, zx_0 rfl, zx_0 rfl, zx_0 rfl, zx_0 rfl, zx_0 rfl, zx_0 rfl, zx_0 rfl, zx_0 rfl, zx_0 rfl, zx_0 rfl, zx_0 rfl, zx_0 rfl, zx_0 rfl, zx_0 rfl, zx_0 rfl, zx_0 rfl, zx_0 rfl, zx_0 rfl, zx_0 rfl, zx_0 rfl, zx_0 rfl, zx_0 rfl, zx_0 rfl, zx_0 rfl, zx_0 rfl, zx_0 rfl, zx_1 rfl⟩
theorem z133_0 : ∀ (ls : zL) (st : zS) (h : zH), zx 133 0 ls st h = zgo 133 (zpure (.aload_n 0) 1 0 [] ls st h) := zx_0 rfl
/-- X6_cuts -/
theorem z133 :
  (∀ (ls : zL) (st : zS) (h : zH), zx 133 1 ls st h = zgo 133 (zpure (.getfield 171) 4 0 [6, 21] ls st h)) ∧
  (∀ (ls : zL) (st : zS) (h : zH), zx 133 4 ls st h = zgo 133 (zpure (.ifCond .le 59) 7 63 [] ls st h)) ∧
  (∀ (ls : zL) (st : zS) (h : zH), zx 133 7 ls st h = zgo 133 (zpure (.aload_n 0) 8 0 [] ls st h)) ∧
  (∀ (ls : zL) (st : zS) (h : zH), zx 133 8 ls st h = zgo 133 (zpure (.getfield 57) 11 0 [6, 18] ls st h)) ∧
  (∀ (ls : zL) (st : zS) (h : zH), zx 133 11 ls st h = zgo 133 (zpure (.aload_n 0) 12 0 [] ls st h)) ∧
  (∀ (ls : zL) (st : zS) (h : zH), zx 133 12 ls st h = zgo 133 (zpure (.getfield 171) 15 0 [6, 21] ls st h)) ∧
  (∀ (ls : zL) (st : zS) (h : zH), zx 133 15 ls st h = zgo 133 (zpure (.iconst 1) 16 0 [] ls st h)) ∧
  (∀ (ls : zL) (st : zS) (h : zH), zx 133 16 ls st h = zgo 133 (zpure .isub 17 0 [] ls st h)) ∧
  (∀ (ls : zL) (st : zS) (h : zH), zx 133 17 ls st h = zgo 133 (zpure .iaload 18 0 [] ls st h)) ∧
  (∀ (ls : zL) (st : zS) (h : zH), zx 133 18 ls st h = zgo 133 (zpure (.iload_n 1) 19 0 [] ls st h)) ∧
  (∀ (ls : zL) (st : zS) (h : zH), zx 133 19 ls st h = zgo 133 (zpure (.if_icmp .lt 44) 22 63 [] ls st h)) ∧
  (∀ (ls : zL) (st : zS) (h : zH), zx 133 22 ls st h = zgo 133 (zpure (.aload_n 0) 23 0 [] ls st h)) ∧
  (∀ (ls : zL) (st : zS) (h : zH), zx 133 23 ls st h = zgo 133 (zpure .dup 24 0 [] ls st h)) ∧
  (∀ (ls : zL) (st : zS) (h : zH), zx 133 24 ls st h = zgo 133 (zpure (.getfield 171) 27 0 [6, 21] ls st h)) ∧
  (∀ (ls : zL) (st : zS) (h : zH), zx 133 27 ls st h = zgo 133 (zpure (.iconst 1) 28 0 [] ls st h)) ∧
  (∀ (ls : zL) (st : zS) (h : zH), zx 133 28 ls st h = zgo 133 (zpure .isub 29 0 [] ls st h)) ∧
  (∀ (ls : zL) (st : zS) (h : zH), zx 133 29 ls st h = zgo 133 (zpure (.putfield 171) 32 0 [6, 21, 0] ls st h)) ∧
  (∀ (ls : zL) (st : zS) (h : zH), zx 133 32 ls st h = zgo 133 (zpure (.aload_n 0) 33 0 [] ls st h)) ∧
  (∀ (ls : zL) (st : zS) (h : zH), zx 133 33 ls st h = zgo 133 (zpure (.getfield 63) 36 0 [6, 20] ls st h)) ∧
  (∀ (ls : zL) (st : zS) (h : zH), zx 133 36 ls st h = zgo 133 (zpure (.aload_n 0) 37 0 [] ls st h)) ∧
  (∀ (ls : zL) (st : zS) (h : zH), zx 133 37 ls st h = zgo 133 (zpure (.getfield 171) 40 0 [6, 21] ls st h)) ∧
  (∀ (ls : zL) (st : zS) (h : zH), zx 133 40 ls st h = zgo 133 (zpure .iaload 41 0 [] ls st h)) ∧
  (∀ (ls : zL) (st : zS) (h : zH), zx 133 41 ls st h = zgo 133 (zpure (.iconst (-1)) 42 0 [] ls st h)) ∧
  (∀ (ls : zL) (st : zS) (h : zH), zx 133 42 ls st h = zgo 133 (zpure (.if_icmp .eq (-42)) 45 0 [] ls st h)) ∧
  (∀ (ls : zL) (st : zS) (h : zH), zx 133 45 ls st h = zgo 133 (zpure (.aload_n 0) 46 0 [] ls st h)) ∧
  (∀ (ls : zL) (st : zS) (h : zH), zx 133 46 ls st h = zgo 133 (zpure (.getfield 75) 49 0 [6, 25] ls st h)) ∧
  (∀ (ls : zL) (st : zS) (h : zH), zx 133 49 ls st h = zgo 133 (zpure (.aload_n 0) 50 0 [] ls st h)) ∧
  (∀ (ls : zL) (st : zS) (h : zH), zx 133 50 ls st h = zgo 133 (zpure (.getfield 63) 53 0 [6, 20] ls st h)) ∧
  (∀ (ls : zL) (st : zS) (h : zH), zx 133 53 ls st h = zgo 133 (zpure (.aload_n 0) 54 0 [] ls st h)) ∧
  (∀ (ls : zL) (st : zS) (h : zH), zx 133 54 ls st h = zgo 133 (zpure (.getfield 171) 57 0 [6, 21] ls st h)) ∧
  (∀ (ls : zL) (st : zS) (h : zH), zx 133 57 ls st h = zgo 133 (zpure .iaload 58 0 [] ls st h)) ∧
  (∀ (ls : zL) (st : zS) (h : zH), zx 133 58 ls st h = zgo 133 (zpure (.iconst (-1)) 59 0 [] ls st h)) ∧
  (∀ (ls : zL) (st : zS) (h : zH), zx 133 59 ls st h = zgo 133 (zpure .iastore 60 0 [] ls st h)) ∧
  (∀ (ls : zL) (st : zS) (h : zH), zx 133 60 ls st h = zgo 133 (zpure (.goto (-60)) 63 0 [] ls st h)) ∧
  (∀ (ls : zL) (st : zS) (h : zH), zx 133 63 ls st h = zgo 133 (zpure (.aload_n 0) 64 0 [] ls st h)) ∧
  (∀ (ls : zL) (st : zS) (h : zH), zx 133 64 ls st h = zgo 133 (zpure (.getfield 171) 67 0 [6, 21] ls st h)) ∧
  (∀ (ls : zL) (st : zS) (h : zH), zx 133 67 ls st h = zgo 133 (zpure (.ifCond .le 62) 70 129 [] ls st h)) ∧
  (∀ (ls : zL) (st : zS) (h : zH), zx 133 70 ls st h = zgo 133 (zpure (.aload_n 0) 71 0 [] ls st h)) ∧
  (∀ (ls : zL) (st : zS) (h : zH), zx 133 71 ls st h = zgo 133 (zpure (.getfield 60) 74 0 [6, 19] ls st h)) ∧
  (∀ (ls : zL) (st : zS) (h : zH), zx 133 74 ls st h = zgo 133 (zpure (.aload_n 0) 75 0 [] ls st h)) ∧
  (∀ (ls : zL) (st : zS) (h : zH), zx 133 75 ls st h = zgo 133 (zpure (.getfield 171) 78 0 [6, 21] ls st h)) ∧
  (∀ (ls : zL) (st : zS) (h : zH), zx 133 78 ls st h = zgo 133 (zpure (.iconst 1) 79 0 [] ls st h)) ∧
  (∀ (ls : zL) (st : zS) (h : zH), zx 133 79 ls st h = zgo 133 (zpure .isub 80 0 [] ls st h)) ∧
  (∀ (ls : zL) (st : zS) (h : zH), zx 133 80 ls st h = zgo 133 (zpure .iaload 81 0 [] ls st h)) ∧
  (∀ (ls : zL) (st : zS) (h : zH), zx 133 81 ls st h = zgo 133 (zpure (.iload_n 1) 82 0 [] ls st h)) ∧
  (∀ (ls : zL) (st : zS) (h : zH), zx 133 82 ls st h = zgo 133 (zpure (.if_icmp .le 47) 85 129 [] ls st h)) ∧
  (∀ (ls : zL) (st : zS) (h : zH), zx 133 85 ls st h = zgo 133 (zpure (.aload_n 0) 86 0 [] ls st h)) ∧
  (∀ (ls : zL) (st : zS) (h : zH), zx 133 86 ls st h = zgo 133 (zpure (.getfield 60) 89 0 [6, 19] ls st h)) ∧
  (∀ (ls : zL) (st : zS) (h : zH), zx 133 89 ls st h = zgo 133 (zpure (.aload_n 0) 90 0 [] ls st h)) ∧
  (∀ (ls : zL) (st : zS) (h : zH), zx 133 90 ls st h = zgo 133 (zpure (.getfield 171) 93 0 [6, 21] ls st h)) ∧
  (∀ (ls : zL) (st : zS) (h : zH), zx 133 93 ls st h = zgo 133 (zpure (.iconst 1) 94 0 [] ls st h)) ∧
  (∀ (ls : zL) (st : zS) (h : zH), zx 133 94 ls st h = zgo 133 (zpure .isub 95 0 [] ls st h)) ∧
  (∀ (ls : zL) (st : zS) (h : zH), zx 133 95 ls st h = zgo 133 (zpure (.iload_n 1) 96 0 [] ls st h)) ∧
  (∀ (ls : zL) (st : zS) (h : zH), zx 133 96 ls st h = zgo 133 (zpure .iastore 97 0 [] ls st h)) ∧
  (∀ (ls : zL) (st : zS) (h : zH), zx 133 97 ls st h = zgo 133 (zpure (.aload_n 0) 98 0 [] ls st h)) ∧
  (∀ (ls : zL) (st : zS) (h : zH), zx 133 98 ls st h = zgo 133 (zpure (.getfield 63) 101 0 [6, 20] ls st h)) ∧
  (∀ (ls : zL) (st : zS) (h : zH), zx 133 101 ls st h = zgo 133 (zpure (.aload_n 0) 102 0 [] ls st h)) ∧
  (∀ (ls : zL) (st : zS) (h : zH), zx 133 102 ls st h = zgo 133 (zpure (.getfield 171) 105 0 [6, 21] ls st h)) ∧
  (∀ (ls : zL) (st : zS) (h : zH), zx 133 105 ls st h = zgo 133 (zpure (.iconst 1) 106 0 [] ls st h)) ∧
  (∀ (ls : zL) (st : zS) (h : zH), zx 133 106 ls st h = zgo 133 (zpure .isub 107 0 [] ls st h)) ∧
  (∀ (ls : zL) (st : zS) (h : zH), zx 133 107 ls st h = zgo 133 (zpure .iaload 108 0 [] ls st h)) ∧
  (∀ (ls : zL) (st : zS) (h : zH), zx 133 108 ls st h = zgo 133 (zpure (.iconst (-1)) 109 0 [] ls st h)) ∧
  (∀ (ls : zL) (st : zS) (h : zH), zx 133 109 ls st h = zgo 133 (zpure (.if_icmp .eq 20) 112 129 [] ls st h)) ∧
  (∀ (ls : zL) (st : zS) (h : zH), zx 133 112 ls st h = zgo 133 (zpure (.aload_n 0) 113 0 [] ls st h)) ∧
  (∀ (ls : zL) (st : zS) (h : zH), zx 133 113 ls st h = zgo 133 (zpure (.getfield 69) 116 0 [6, 23] ls st h)) ∧
  (∀ (ls : zL) (st : zS) (h : zH), zx 133 116 ls st h = zgo 133 (zpure (.aload_n 0) 117 0 [] ls st h)) ∧
  (∀ (ls : zL) (st : zS) (h : zH), zx 133 117 ls st h = zgo 133 (zpure (.getfield 63) 120 0 [6, 20] ls st h)) ∧
  (∀ (ls : zL) (st : zS) (h : zH), zx 133 120 ls st h = zgo 133 (zpure (.aload_n 0) 121 0 [] ls st h)) ∧
  (∀ (ls : zL) (st : zS) (h : zH), zx 133 121 ls st h = zgo 133 (zpure (.getfield 171) 124 0 [6, 21] ls st h)) ∧
  (∀ (ls : zL) (st : zS) (h : zH), zx 133 124 ls st h = zgo 133 (zpure (.iconst 1) 125 0 [] ls st h)) ∧
  (∀ (ls : zL) (st : zS) (h : zH), zx 133 125 ls st h = zgo 133 (zpure .isub 126 0 [] ls st h)) ∧
  (∀ (ls : zL) (st : zS) (h : zH), zx 133 126 ls st h = zgo 133 (zpure .iaload 127 0 [] ls st h)) ∧
  (∀ (ls : zL) (st : zS) (h : zH), zx 133 127 ls st h = zgo 133 (zpure (.iconst 1) 128 0 [] ls st h)) ∧
  (∀ (ls : zL) (st : zS) (h : zH), zx 133 128 ls st h = zgo 133 (zpure .bastore 129 0 [] ls st h)) ∧
  (∀ (ls : zL) (st : zS) (h : zH), zx 133 129 ls st h = zret 8 st h) :=
  ⟨zx_0 rfl, zx_0 rfl, zx_0 rfl, zx_0 rfl, zx_0 rfl, zx_0 rfl, zx_0 rfl, zx_0 rfl, zx_0 rfl, zx_0 rfl, zx_0 rfl, zx_0 rfl, zx_0 rfl, zx_0 rfl, zx_0 rfl, zx_0 rfl, zx_0 rfl, zx_0 rfl, zx_0 rfl, zx_0 rfl, zx_0 rfl, zx_0 rfl, zx_0 rfl, zx_0 rfl, zx_0 rfl, zx_0 rfl, zx_0 rfl, zx_0 rfl, zx_0 rfl, zx_0 rfl, zx_0 rfl, zx_0 rfl, zx_0 rfl, zx_0 rfl, zx_0 rfl, zx_0 rfl, zx_0 rfl, zx_0 rfl, zx_0 rfl, zx_0 rfl, zx_0 rfl, zx_0 rfl, zx_0 rfl, zx_0 rfl, zx_0 rfl, zx_0 rfl, zx_0 rfl, zx_0 rfl, zx_0 rfl, zx_0 rfl, zx_0 rfl, zx_0 rfl, zx_0 rfl, zx_0 rfl, zx_0 rfl, zx_0 rfl, zx_0 rfl, zx_0 rfl, zx_0 rfl, zx_0 rfl, zx_0 rfl, zx_0 rfl, zx_0 rfl, zx_0 rfl, zx_0 rfl, zx_0 rfl, zx_0 rfl, zx_0 rfl, zx_0 rfl, zx_0 rfl, zx_0 rfl, zx_0 rfl, zx_0 rfl, zx_0 rfl, zx_1 rfl⟩
theorem z134_7 : ∀ (ls : zL) (st : zS) (h : zH), zx 134 7 ls st h = zgo 134 (zpure (.iload_n 1) 8 0 [] ls st h) := zx_0 rfl
/-- X6_levelNow -/
theorem z134 :
  (∀ (ls : zL) (st : zS) (h : zH), zx 134 0 ls st h = zgo 134 (zpure (.aload_n 0) 1 0 [] ls st h)) ∧
  (∀ (ls : zL) (st : zS) (h : zH), zx 134 1 ls st h = zgo 134 (zpure (.getfield 171) 4 0 [6, 21] ls st h)) ∧
  (∀ (ls : zL) (st : zS) (h : zH), zx 134 4 ls st h = zgo 134 (zpure (.iconst 1) 5 0 [] ls st h)) ∧
  (∀ (ls : zL) (st : zS) (h : zH), zx 134 5 ls st h = zgo 134 (zpure .isub 6 0 [] ls st h)) ∧
  (∀ (ls : zL) (st : zS) (h : zH), zx 134 6 ls st h = zgo 134 (zpure (.istore_n 1) 7 0 [] ls st h)) ∧
  (∀ (ls : zL) (st : zS) (h : zH), zx 134 8 ls st h = zgo 134 (zpure (.ifCond .lt 19) 11 27 [] ls st h)) ∧
  (∀ (ls : zL) (st : zS) (h : zH), zx 134 11 ls st h = zgo 134 (zpure (.aload_n 0) 12 0 [] ls st h)) ∧
  (∀ (ls : zL) (st : zS) (h : zH), zx 134 12 ls st h = zgo 134 (zpure (.getfield 63) 15 0 [6, 20] ls st h)) ∧
  (∀ (ls : zL) (st : zS) (h : zH), zx 134 15 ls st h = zgo 134 (zpure (.iload_n 1) 16 0 [] ls st h)) ∧
  (∀ (ls : zL) (st : zS) (h : zH), zx 134 16 ls st h = zgo 134 (zpure .iaload 17 0 [] ls st h)) ∧
  (∀ (ls : zL) (st : zS) (h : zH), zx 134 17 ls st h = zgo 134 (zpure (.iconst (-1)) 18 0 [] ls st h)) ∧
  (∀ (ls : zL) (st : zS) (h : zH), zx 134 18 ls st h = zgo 134 (zpure (.if_icmp .ne 9) 21 27 [] ls st h)) ∧
  (∀ (ls : zL) (st : zS) (h : zH), zx 134 21 ls st h = zgo 134 (zpure (.iinc 1 (-1)) 24 0 [] ls st h)) ∧
  (∀ (ls : zL) (st : zS) (h : zH), zx 134 24 ls st h = zgo 134 (zpure (.goto (-17)) 27 7 [] ls st h)) ∧
  (∀ (ls : zL) (st : zS) (h : zH), zx 134 27 ls st h = zgo 134 (zpure (.iload_n 1) 28 0 [] ls st h)) ∧
  (∀ (ls : zL) (st : zS) (h : zH), zx 134 28 ls st h = zgo 134 (zpure (.ifCond .ge 8) 31 36 [] ls st h)) ∧
  (∀ (ls : zL) (st : zS) (h : zH), zx 134 31 ls st h = zgo 134 (zpure (.bipush (-23)) 33 0 [] ls st h)) ∧
  (∀ (ls : zL) (st : zS) (h : zH), zx 134 33 ls st h = zgo 134 (zpure (.goto 14) 36 47 [] ls st h)) ∧
  (∀ (ls : zL) (st : zS) (h : zH), zx 134 36 ls st h = zgo 134 (zpure (.aload_n 0) 37 0 [] ls st h)) ∧
  (∀ (ls : zL) (st : zS) (h : zH), zx 134 37 ls st h = zgo 134 (zpure (.getfield 13) 40 0 [6, 1] ls st h)) ∧
  (∀ (ls : zL) (st : zS) (h : zH), zx 134 40 ls st h = zgo 134 (zpure (.aload_n 0) 41 0 [] ls st h)) ∧
  (∀ (ls : zL) (st : zS) (h : zH), zx 134 41 ls st h = zgo 134 (zpure (.getfield 54) 44 0 [6, 17] ls st h)) ∧
  (∀ (ls : zL) (st : zS) (h : zH), zx 134 44 ls st h = zgo 134 (zpure (.iload_n 1) 45 0 [] ls st h)) ∧
  (∀ (ls : zL) (st : zS) (h : zH), zx 134 45 ls st h = zgo 134 (zpure .iaload 46 0 [] ls st h)) ∧
  (∀ (ls : zL) (st : zS) (h : zH), zx 134 46 ls st h = zgo 134 (zpure .iaload 47 0 [] ls st h)) ∧
  (∀ (ls : zL) (st : zS) (h : zH), zx 134 47 ls st h = zret 0 st h) :=
  ⟨zx_0 rfl, zx_0 rfl, zx_0 rfl, zx_0 rfl, zx_0 rfl, zx_0 rfl, zx_0 rfl, zx_0 rfl, zx_0 rfl, zx_0 rfl, zx_0 rfl, zx_0 rfl, zx_0 rfl, zx_0 rfl, zx_0 rfl, zx_0 rfl, zx_0 rfl, zx_0 rfl, zx_0 rfl, zx_0 rfl, zx_0 rfl, zx_0 rfl, zx_0 rfl, zx_0 rfl, zx_0 rfl, zx_1 rfl⟩
theorem z135_28 : ∀ (ls : zL) (st : zS) (h : zH), zx 135 28 ls st h = zgo 135 (zpure (.iload 4) 30 0 [] ls st h) := zx_0 rfl
/-- X6_gap -/
theorem z135 :
  (∀ (ls : zL) (st : zS) (h : zH), zx 135 0 ls st h = zgo 135 (zpure (.aload_n 0) 1 0 [] ls st h)) ∧
  (∀ (ls : zL) (st : zS) (h : zH), zx 135 1 ls st h = zgo 135 (zpure (.iload_n 2) 2 0 [] ls st h)) ∧
  (∀ (ls : zL) (st : zS) (h : zH), zx 135 2 ls st h = zgo 135 (zpure (.iload_n 1) 3 0 [] ls st h)) ∧
  (∀ (ls : zL) (st : zS) (h : zH), zx 135 3 ls st h = zgo 135 (zpure .isub 4 0 [] ls st h)) ∧
  (∀ (ls : zL) (st : zS) (h : zH), zx 135 4 ls st h = zgo 135 (zpure (.aload_n 0) 5 0 [] ls st h)) ∧
  (∀ (ls : zL) (st : zS) (h : zH), zx 135 5 ls st h = zca 135 5 8 ls 134 2 7 (ztake 1 st) h) ∧
  (∀ (ls : zL) (st : zS) (h : zH), zx 135 8 ls st h = zca 135 8 11 ls 125 7 7 (ztake 3 st) h) ∧
  (∀ (ls : zL) (st : zS) (h : zH), zx 135 11 ls st h = zgo 135 (zpure (.ifCond .ne 12) 14 23 [] ls st h)) ∧
  (∀ (ls : zL) (st : zS) (h : zH), zx 135 14 ls st h = zgo 135 (zpure (.aload_n 0) 15 0 [] ls st h)) ∧
  (∀ (ls : zL) (st : zS) (h : zH), zx 135 15 ls st h = zgo 135 (zpure (.iconst (-1)) 16 0 [] ls st h)) ∧
  (∀ (ls : zL) (st : zS) (h : zH), zx 135 16 ls st h = zgo 135 (zpure (.iconst (-1)) 17 0 [] ls st h)) ∧
  (∀ (ls : zL) (st : zS) (h : zH), zx 135 17 ls st h = zgo 135 (zpure (.iload_n 1) 18 0 [] ls st h)) ∧
  (∀ (ls : zL) (st : zS) (h : zH), zx 135 18 ls st h = zgo 135 (zpure (.iload_n 2) 19 0 [] ls st h)) ∧
  (∀ (ls : zL) (st : zS) (h : zH), zx 135 19 ls st h = zca 135 19 22 ls 132 5 7 (ztake 5 st) h) ∧
  (∀ (ls : zL) (st : zS) (h : zH), zx 135 22 ls st h = zret 8 st h) ∧
  (∀ (ls : zL) (st : zS) (h : zH), zx 135 23 ls st h = zgo 135 (zpure (.iload_n 1) 24 0 [] ls st h)) ∧
  (∀ (ls : zL) (st : zS) (h : zH), zx 135 24 ls st h = zgo 135 (zpure (.istore_n 3) 25 0 [] ls st h)) ∧
  (∀ (ls : zL) (st : zS) (h : zH), zx 135 25 ls st h = zgo 135 (zpure (.iconst 0) 26 0 [] ls st h)) ∧
  (∀ (ls : zL) (st : zS) (h : zH), zx 135 26 ls st h = zgo 135 (zpure (.istore 4) 28 0 [] ls st h)) ∧
  (∀ (ls : zL) (st : zS) (h : zH), zx 135 30 ls st h = zgo 135 (zpure (.aload_n 0) 31 0 [] ls st h)) ∧
  (∀ (ls : zL) (st : zS) (h : zH), zx 135 31 ls st h = zgo 135 (zpure (.getfield 92) 34 0 [6, 7] ls st h)) ∧
  (∀ (ls : zL) (st : zS) (h : zH), zx 135 34 ls st h = zgo 135 (zpure (.if_icmp .ge 49) 37 83 [] ls st h)) ∧
  (∀ (ls : zL) (st : zS) (h : zH), zx 135 37 ls st h = zgo 135 (zpure (.aload_n 0) 38 0 [] ls st h)) ∧
  (∀ (ls : zL) (st : zS) (h : zH), zx 135 38 ls st h = zgo 135 (zpure (.getfield 131) 41 0 [6, 26] ls st h)) ∧
  (∀ (ls : zL) (st : zS) (h : zH), zx 135 41 ls st h = zgo 135 (zpure (.iload 4) 43 0 [] ls st h)) ∧
  (∀ (ls : zL) (st : zS) (h : zH), zx 135 43 ls st h = zgo 135 (zpure .ishr 44 0 [] ls st h)) ∧
  (∀ (ls : zL) (st : zS) (h : zH), zx 135 44 ls st h = zgo 135 (zpure (.iconst 1) 45 0 [] ls st h)) ∧
  (∀ (ls : zL) (st : zS) (h : zH), zx 135 45 ls st h = zgo 135 (zpure .iand 46 0 [] ls st h)) ∧
  (∀ (ls : zL) (st : zS) (h : zH), zx 135 46 ls st h = zgo 135 (zpure (.iconst 1) 47 0 [] ls st h)) ∧
  (∀ (ls : zL) (st : zS) (h : zH), zx 135 47 ls st h = zgo 135 (zpure (.if_icmp .ne 30) 50 77 [] ls st h)) ∧
  (∀ (ls : zL) (st : zS) (h : zH), zx 135 50 ls st h = zgo 135 (zpure (.aload_n 0) 51 0 [] ls st h)) ∧
  (∀ (ls : zL) (st : zS) (h : zH), zx 135 51 ls st h = zgo 135 (zpure (.iload 4) 53 0 [] ls st h)) ∧
  (∀ (ls : zL) (st : zS) (h : zH), zx 135 53 ls st h = zgo 135 (zpure (.iconst (-1)) 54 0 [] ls st h)) ∧
  (∀ (ls : zL) (st : zS) (h : zH), zx 135 54 ls st h = zgo 135 (zpure (.iload_n 3) 55 0 [] ls st h)) ∧
  (∀ (ls : zL) (st : zS) (h : zH), zx 135 55 ls st h = zgo 135 (zpure (.iload_n 3) 56 0 [] ls st h)) ∧
  (∀ (ls : zL) (st : zS) (h : zH), zx 135 56 ls st h = zgo 135 (zpure (.aload_n 0) 57 0 [] ls st h)) ∧
  (∀ (ls : zL) (st : zS) (h : zH), zx 135 57 ls st h = zgo 135 (zpure (.getfield 9) 60 0 [6, 0] ls st h)) ∧
  (∀ (ls : zL) (st : zS) (h : zH), zx 135 60 ls st h = zgo 135 (zpure (.iload 4) 62 0 [] ls st h)) ∧
  (∀ (ls : zL) (st : zS) (h : zH), zx 135 62 ls st h = zgo 135 (zpure .iaload 63 0 [] ls st h)) ∧
  (∀ (ls : zL) (st : zS) (h : zH), zx 135 63 ls st h = zgo 135 (zpure .iadd 64 0 [] ls st h)) ∧
  (∀ (ls : zL) (st : zS) (h : zH), zx 135 64 ls st h = zca 135 64 67 ls 132 5 7 (ztake 5 st) h) ∧
  (∀ (ls : zL) (st : zS) (h : zH), zx 135 67 ls st h = zgo 135 (zpure (.iload_n 3) 68 0 [] ls st h)) ∧
  (∀ (ls : zL) (st : zS) (h : zH), zx 135 68 ls st h = zgo 135 (zpure (.aload_n 0) 69 0 [] ls st h)) ∧
  (∀ (ls : zL) (st : zS) (h : zH), zx 135 69 ls st h = zgo 135 (zpure (.getfield 9) 72 0 [6, 0] ls st h)) ∧
  (∀ (ls : zL) (st : zS) (h : zH), zx 135 72 ls st h = zgo 135 (zpure (.iload 4) 74 0 [] ls st h)) ∧
  (∀ (ls : zL) (st : zS) (h : zH), zx 135 74 ls st h = zgo 135 (zpure .iaload 75 0 [] ls st h)) ∧
  (∀ (ls : zL) (st : zS) (h : zH), zx 135 75 ls st h = zgo 135 (zpure .iadd 76 0 [] ls st h)) ∧
  (∀ (ls : zL) (st : zS) (h : zH), zx 135 76 ls st h = zgo 135 (zpure (.istore_n 3) 77 0 [] ls st h)) ∧
  (∀ (ls : zL) (st : zS) (h : zH), zx 135 77 ls st h = zgo 135 (zpure (.iinc 4 1) 80 0 [] ls st h)) ∧
  (∀ (ls : zL) (st : zS) (h : zH), zx 135 80 ls st h = zgo 135 (zpure (.goto (-52)) 83 28 [] ls st h)) ∧
  (∀ (ls : zL) (st : zS) (h : zH), zx 135 83 ls st h = zret 8 st h) :=
  ⟨zx_0 rfl, zx_0 rfl, zx_0 rfl, zx_0 rfl, zx_0 rfl, zx_2c rfl, zx_2c rfl, zx_0 rfl, zx_0 rfl, zx_0 rfl, zx_0 rfl, zx_0 rfl, zx_0 rfl, zx_2c rfl, zx_1 rfl, zx_0 rfl, zx_0 rfl, zx_0 rfl, zx_0 rfl, zx_0 rfl, zx_0 rfl, zx_0 rfl, zx_0 rfl, zx_0 rfl, zx_0 rfl, zx_0 rfl, zx_0 rfl, zx_0 rfl, zx_0 rfl, zx_0 rfl, zx_0 rfl, zx_0 rfl, zx_0 rfl, zx_0 rfl, zx_0 rfl, zx_0 rfl, zx_0 rfl, zx_0 rfl, zx_0 rfl, zx_0 rfl, zx_2c rfl, zx_0 rfl, zx_0 rfl, zx_0 rfl, zx_0 rfl, zx_0 rfl, zx_0 rfl, zx_0 rfl, zx_0 rfl, zx_0 rfl, zx_1 rfl⟩
theorem z136_4 : ∀ (ls : zL) (st : zS) (h : zH), zx 136 4 ls st h = zgo 136 (zpure (.iload_n 3) 5 0 [] ls st h) := zx_0 rfl
/-- X6_barred -/
theorem z136 :
  (∀ (ls : zL) (st : zS) (h : zH), zx 136 0 ls st h = zgo 136 (zpure (.iconst 0) 1 0 [] ls st h)) ∧
  (∀ (ls : zL) (st : zS) (h : zH), zx 136 1 ls st h = zgo 136 (zpure (.istore_n 2) 2 0 [] ls st h)) ∧
  (∀ (ls : zL) (st : zS) (h : zH), zx 136 2 ls st h = zgo 136 (zpure (.iconst 0) 3 0 [] ls st h)) ∧
  (∀ (ls : zL) (st : zS) (h : zH), zx 136 3 ls st h = zgo 136 (zpure (.istore_n 3) 4 0 [] ls st h)) ∧
  (∀ (ls : zL) (st : zS) (h : zH), zx 136 5 ls st h = zgo 136 (zpure (.iload_n 1) 6 0 [] ls st h)) ∧
  (∀ (ls : zL) (st : zS) (h : zH), zx 136 6 ls st h = zgo 136 (zpure (.if_icmp .ge 41) 9 47 [] ls st h)) ∧
  (∀ (ls : zL) (st : zS) (h : zH), zx 136 9 ls st h = zgo 136 (zpure (.iload_n 2) 10 0 [] ls st h)) ∧
  (∀ (ls : zL) (st : zS) (h : zH), zx 136 10 ls st h = zgo 136 (zpure (.aload_n 0) 11 0 [] ls st h)) ∧
  (∀ (ls : zL) (st : zS) (h : zH), zx 136 11 ls st h = zgo 136 (zpure (.getfield 66) 14 0 [6, 22] ls st h)) ∧
  (∀ (ls : zL) (st : zS) (h : zH), zx 136 14 ls st h = zgo 136 (zpure (.iload_n 3) 15 0 [] ls st h)) ∧
  (∀ (ls : zL) (st : zS) (h : zH), zx 136 15 ls st h = zgo 136 (zpure .baload 16 0 [] ls st h)) ∧
  (∀ (ls : zL) (st : zS) (h : zH), zx 136 16 ls st h = zgo 136 (zpure (.ifCond .ne 22) 19 38 [] ls st h)) ∧
  (∀ (ls : zL) (st : zS) (h : zH), zx 136 19 ls st h = zgo 136 (zpure (.aload_n 0) 20 0 [] ls st h)) ∧
  (∀ (ls : zL) (st : zS) (h : zH), zx 136 20 ls st h = zgo 136 (zpure (.getfield 33) 23 0 [6, 9] ls st h)) ∧
  (∀ (ls : zL) (st : zS) (h : zH), zx 136 23 ls st h = zgo 136 (zpure (.iload_n 3) 24 0 [] ls st h)) ∧
  (∀ (ls : zL) (st : zS) (h : zH), zx 136 24 ls st h = zgo 136 (zpure .iaload 25 0 [] ls st h)) ∧
  (∀ (ls : zL) (st : zS) (h : zH), zx 136 25 ls st h = zgo 136 (zpure (.aload_n 0) 26 0 [] ls st h)) ∧
  (∀ (ls : zL) (st : zS) (h : zH), zx 136 26 ls st h = zgo 136 (zpure (.getfield 33) 29 0 [6, 9] ls st h)) ∧
  (∀ (ls : zL) (st : zS) (h : zH), zx 136 29 ls st h = zgo 136 (zpure (.iload_n 1) 30 0 [] ls st h)) ∧
  (∀ (ls : zL) (st : zS) (h : zH), zx 136 30 ls st h = zgo 136 (zpure .iaload 31 0 [] ls st h)) ∧
  (∀ (ls : zL) (st : zS) (h : zH), zx 136 31 ls st h = zgo 136 (zpure (.if_icmp .ne 7) 34 38 [] ls st h)) ∧
  (∀ (ls : zL) (st : zS) (h : zH), zx 136 34 ls st h = zgo 136 (zpure (.iconst 1) 35 0 [] ls st h)) ∧
  (∀ (ls : zL) (st : zS) (h : zH), zx 136 35 ls st h = zgo 136 (zpure (.goto 4) 38 39 [] ls st h)) ∧
  (∀ (ls : zL) (st : zS) (h : zH), zx 136 38 ls st h = zgo 136 (zpure (.iconst 0) 39 0 [] ls st h)) ∧
  (∀ (ls : zL) (st : zS) (h : zH), zx 136 39 ls st h = zgo 136 (zpure .iadd 40 0 [] ls st h)) ∧
  (∀ (ls : zL) (st : zS) (h : zH), zx 136 40 ls st h = zgo 136 (zpure (.istore_n 2) 41 0 [] ls st h)) ∧
  (∀ (ls : zL) (st : zS) (h : zH), zx 136 41 ls st h = zgo 136 (zpure (.iinc 3 1) 44 0 [] ls st h)) ∧
  (∀ (ls : zL) (st : zS) (h : zH), zx 136 44 ls st h = zgo 136 (zpure (.goto (-40)) 47 4 [] ls st h)) ∧
  (∀ (ls : zL) (st : zS) (h : zH), zx 136 47 ls st h = zgo 136 (zpure (.aload_n 0) 48 0 [] ls st h)) ∧
  (∀ (ls : zL) (st : zS) (h : zH), zx 136 48 ls st h = zgo 136 (zpure (.aload_n 0) 49 0 [] ls st h)) ∧
  (∀ (ls : zL) (st : zS) (h : zH), zx 136 49 ls st h = zgo 136 (zpure (.getfield 33) 52 0 [6, 9] ls st h)) ∧
  (∀ (ls : zL) (st : zS) (h : zH), zx 136 52 ls st h = zgo 136 (zpure (.iload_n 1) 53 0 [] ls st h)) ∧
  (∀ (ls : zL) (st : zS) (h : zH), zx 136 53 ls st h = zgo 136 (zpure .iaload 54 0 [] ls st h)) ∧
  (∀ (ls : zL) (st : zS) (h : zH), zx 136 54 ls st h = zca 136 54 57 ls 122 2 7 (ztake 2 st) h) ∧
  (∀ (ls : zL) (st : zS) (h : zH), zx 136 57 ls st h = zgo 136 (zpure (.ifCond .eq 18) 60 75 [] ls st h)) ∧
  (∀ (ls : zL) (st : zS) (h : zH), zx 136 60 ls st h = zgo 136 (zpure (.iload_n 2) 61 0 [] ls st h)) ∧
  (∀ (ls : zL) (st : zS) (h : zH), zx 136 61 ls st h = zgo 136 (zpure (.aload_n 0) 62 0 [] ls st h)) ∧
  (∀ (ls : zL) (st : zS) (h : zH), zx 136 62 ls st h = zgo 136 (zpure (.getfield 16) 65 0 [6, 2] ls st h)) ∧
  (∀ (ls : zL) (st : zS) (h : zH), zx 136 65 ls st h = zgo 136 (zpure (.aload_n 0) 66 0 [] ls st h)) ∧
  (∀ (ls : zL) (st : zS) (h : zH), zx 136 66 ls st h = zgo 136 (zpure (.getfield 33) 69 0 [6, 9] ls st h)) ∧
  (∀ (ls : zL) (st : zS) (h : zH), zx 136 69 ls st h = zgo 136 (zpure (.iload_n 1) 70 0 [] ls st h)) ∧
  (∀ (ls : zL) (st : zS) (h : zH), zx 136 70 ls st h = zgo 136 (zpure .iaload 71 0 [] ls st h)) ∧
  (∀ (ls : zL) (st : zS) (h : zH), zx 136 71 ls st h = zgo 136 (zpure .iaload 72 0 [] ls st h)) ∧
  (∀ (ls : zL) (st : zS) (h : zH), zx 136 72 ls st h = zgo 136 (zpure (.if_icmp .lt 7) 75 79 [] ls st h)) ∧
  (∀ (ls : zL) (st : zS) (h : zH), zx 136 75 ls st h = zgo 136 (zpure (.iconst 1) 76 0 [] ls st h)) ∧
  (∀ (ls : zL) (st : zS) (h : zH), zx 136 76 ls st h = zgo 136 (zpure (.goto 4) 79 80 [] ls st h)) ∧
  (∀ (ls : zL) (st : zS) (h : zH), zx 136 79 ls st h = zgo 136 (zpure (.iconst 0) 80 0 [] ls st h)) ∧
  (∀ (ls : zL) (st : zS) (h : zH), zx 136 80 ls st h = zret 1 st h) :=
  ⟨zx_0 rfl, zx_0 rfl, zx_0 rfl, zx_0 rfl, zx_0 rfl, zx_0 rfl, zx_0 rfl, zx_0 rfl, zx_0 rfl, zx_0 rfl, zx_0 rfl, zx_0 rfl, zx_0 rfl, zx_0 rfl, zx_0 rfl, zx_0 rfl, zx_0 rfl, zx_0 rfl, zx_0 rfl, zx_0 rfl, zx_0 rfl, zx_0 rfl, zx_0 rfl, zx_0 rfl, zx_0 rfl, zx_0 rfl, zx_0 rfl, zx_0 rfl, zx_0 rfl, zx_0 rfl, zx_0 rfl, zx_0 rfl, zx_0 rfl, zx_2c rfl, zx_0 rfl, zx_0 rfl, zx_0 rfl, zx_0 rfl, zx_0 rfl, zx_0 rfl, zx_0 rfl, zx_0 rfl, zx_0 rfl, zx_0 rfl, zx_0 rfl, zx_0 rfl, zx_0 rfl, zx_1 rfl⟩
set_option maxRecDepth 4000 in
theorem z137_b0 :
  (∀ (ls : zL) (st : zS) (h : zH), zx 137 0 ls st h = zgo 137 (zpure (.aload_n 0) 1 0 [] ls st h)) ∧
  (∀ (ls : zL) (st : zS) (h : zH), zx 137 1 ls st h = zgo 137 (zpure (.getfield 9) 4 0 [6, 0] ls st h)) ∧
  (∀ (ls : zL) (st : zS) (h : zH), zx 137 4 ls st h = zgo 137 (zpure (.aload_n 0) 5 0 [] ls st h)) ∧
  (∀ (ls : zL) (st : zS) (h : zH), zx 137 5 ls st h = zgo 137 (zpure (.getfield 33) 8 0 [6, 9] ls st h)) ∧
  (∀ (ls : zL) (st : zS) (h : zH), zx 137 8 ls st h = zgo 137 (zpure (.iload_n 1) 9 0 [] ls st h)) ∧
  (∀ (ls : zL) (st : zS) (h : zH), zx 137 9 ls st h = zgo 137 (zpure .iaload 10 0 [] ls st h)) ∧
  (∀ (ls : zL) (st : zS) (h : zH), zx 137 10 ls st h = zgo 137 (zpure .iaload 11 0 [] ls st h)) ∧
  (∀ (ls : zL) (st : zS) (h : zH), zx 137 11 ls st h = zgo 137 (zpure (.aload_n 0) 12 0 [] ls st h)) ∧
  (∀ (ls : zL) (st : zS) (h : zH), zx 137 12 ls st h = zgo 137 (zpure (.getfield 39) 15 0 [6, 11] ls st h)) ∧
  (∀ (ls : zL) (st : zS) (h : zH), zx 137 15 ls st h = zgo 137 (zpure (.iload_n 1) 16 0 [] ls st h)) ∧
  (∀ (ls : zL) (st : zS) (h : zH), zx 137 16 ls st h = zgo 137 (zpure .iaload 17 0 [] ls st h)) ∧
  (∀ (ls : zL) (st : zS) (h : zH), zx 137 17 ls st h = zgo 137 (zpure .iadd 18 0 [] ls st h)) ∧
  (∀ (ls : zL) (st : zS) (h : zH), zx 137 18 ls st h = zgo 137 (zpure (.istore_n 3) 19 0 [] ls st h)) ∧
  (∀ (ls : zL) (st : zS) (h : zH), zx 137 19 ls st h = zgo 137 (zpure (.aload_n 0) 20 0 [] ls st h)) ∧
  (∀ (ls : zL) (st : zS) (h : zH), zx 137 20 ls st h = zgo 137 (zpure (.getfield 42) 23 0 [6, 12] ls st h)) ∧
  (∀ (ls : zL) (st : zS) (h : zH), zx 137 23 ls st h = zgo 137 (zpure (.iload_n 1) 24 0 [] ls st h)) ∧
  (∀ (ls : zL) (st : zS) (h : zH), zx 137 24 ls st h = zgo 137 (zpure .caload 25 0 [] ls st h)) ∧
  (∀ (ls : zL) (st : zS) (h : zH), zx 137 25 ls st h = zgo 137 (zpure (.istore 4) 27 0 [] ls st h)) ∧
  (∀ (ls : zL) (st : zS) (h : zH), zx 137 27 ls st h = zgo 137 (zpure (.iload 4) 29 0 [] ls st h)) ∧
  (∀ (ls : zL) (st : zS) (h : zH), zx 137 29 ls st h = zgo 137 (zpure (.bipush 102) 31 0 [] ls st h)) ∧
  (∀ (ls : zL) (st : zS) (h : zH), zx 137 31 ls st h = zgo 137 (zpure (.if_icmp .ne 7) 34 38 [] ls st h)) ∧
  (∀ (ls : zL) (st : zS) (h : zH), zx 137 34 ls st h = zgo 137 (zpure (.iload_n 2) 35 0 [] ls st h)) ∧
  (∀ (ls : zL) (st : zS) (h : zH), zx 137 35 ls st h = zgo 137 (zpure (.goto 9) 38 44 [] ls st h)) ∧
  (∀ (ls : zL) (st : zS) (h : zH), zx 137 38 ls st h = zgo 137 (zpure (.aload_n 0) 39 0 [] ls st h)) ∧
  (∀ (ls : zL) (st : zS) (h : zH), zx 137 39 ls st h = zgo 137 (zpure (.getfield 36) 42 0 [6, 10] ls st h)) ∧
  (∀ (ls : zL) (st : zS) (h : zH), zx 137 42 ls st h = zgo 137 (zpure (.iload_n 1) 43 0 [] ls st h)) ∧
  (∀ (ls : zL) (st : zS) (h : zH), zx 137 43 ls st h = zgo 137 (zpure .iaload 44 0 [] ls st h)) ∧
  (∀ (ls : zL) (st : zS) (h : zH), zx 137 44 ls st h = zgo 137 (zpure (.istore 5) 46 0 [] ls st h)) ∧
  (∀ (ls : zL) (st : zS) (h : zH), zx 137 46 ls st h = zgo 137 (zpure (.iload 5) 48 0 [] ls st h)) ∧
  (∀ (ls : zL) (st : zS) (h : zH), zx 137 48 ls st h = zgo 137 (zpure (.iload_n 2) 49 0 [] ls st h)) ∧
  (∀ (ls : zL) (st : zS) (h : zH), zx 137 49 ls st h = zgo 137 (zpure (.if_icmp .le 32) 52 81 [] ls st h)) ∧
  (∀ (ls : zL) (st : zS) (h : zH), zx 137 52 ls st h = zgo 137 (zpure (.aload_n 0) 53 0 [] ls st h)) ∧
  (∀ (ls : zL) (st : zS) (h : zH), zx 137 53 ls st h = zgo 137 (zpure (.iload_n 2) 54 0 [] ls st h)) ∧
  (∀ (ls : zL) (st : zS) (h : zH), zx 137 54 ls st h = zgo 137 (zpure (.iload 5) 56 0 [] ls st h)) ∧
  (∀ (ls : zL) (st : zS) (h : zH), zx 137 56 ls st h = zca 137 56 59 ls 135 5 7 (ztake 3 st) h) ∧
  (∀ (ls : zL) (st : zS) (h : zH), zx 137 59 ls st h = zgo 137 (zpure (.aload_n 0) 60 0 [] ls st h)) ∧
  (∀ (ls : zL) (st : zS) (h : zH), zx 137 60 ls st h = zgo 137 (zpure (.aload_n 0) 61 0 [] ls st h)) ∧
  (∀ (ls : zL) (st : zS) (h : zH), zx 137 61 ls st h = zgo 137 (zpure (.getfield 33) 64 0 [6, 9] ls st h)) ∧
  (∀ (ls : zL) (st : zS) (h : zH), zx 137 64 ls st h = zgo 137 (zpure (.iload_n 1) 65 0 [] ls st h)) ∧
  (∀ (ls : zL) (st : zS) (h : zH), zx 137 65 ls st h = zgo 137 (zpure .iaload 66 0 [] ls st h)) ∧
  (∀ (ls : zL) (st : zS) (h : zH), zx 137 66 ls st h = zgo 137 (zpure (.iload_n 1) 67 0 [] ls st h)) ∧
  (∀ (ls : zL) (st : zS) (h : zH), zx 137 67 ls st h = zgo 137 (zpure (.iload 5) 69 0 [] ls st h)) ∧
  (∀ (ls : zL) (st : zS) (h : zH), zx 137 69 ls st h = zgo 137 (zpure (.iload 5) 71 0 [] ls st h)) ∧
  (∀ (ls : zL) (st : zS) (h : zH), zx 137 71 ls st h = zgo 137 (zpure (.iload_n 3) 72 0 [] ls st h)) ∧
  (∀ (ls : zL) (st : zS) (h : zH), zx 137 72 ls st h = zgo 137 (zpure .iadd 73 0 [] ls st h)) ∧
  (∀ (ls : zL) (st : zS) (h : zH), zx 137 73 ls st h = zca 137 73 76 ls 132 5 7 (ztake 5 st) h) ∧
  (∀ (ls : zL) (st : zS) (h : zH), zx 137 76 ls st h = zgo 137 (zpure (.iload 5) 78 0 [] ls st h)) ∧
  (∀ (ls : zL) (st : zS) (h : zH), zx 137 78 ls st h = zgo 137 (zpure (.iload_n 3) 79 0 [] ls st h)) ∧
  (∀ (ls : zL) (st : zS) (h : zH), zx 137 79 ls st h = zgo 137 (zpure .iadd 80 0 [] ls st h)) ∧
  (∀ (ls : zL) (st : zS) (h : zH), zx 137 80 ls st h = zret 0 st h) ∧
  (∀ (ls : zL) (st : zS) (h : zH), zx 137 81 ls st h = zgo 137 (zpure (.iload 4) 83 0 [] ls st h)) ∧
  (∀ (ls : zL) (st : zS) (h : zH), zx 137 83 ls st h = zgo 137 (zpure (.bipush 99) 85 0 [] ls st h)) ∧
  (∀ (ls : zL) (st : zS) (h : zH), zx 137 85 ls st h = zgo 137 (zpure (.if_icmp .ne 31) 88 116 [] ls st h)) ∧
  (∀ (ls : zL) (st : zS) (h : zH), zx 137 88 ls st h = zgo 137 (zpure (.aload_n 0) 89 0 [] ls st h)) ∧
  (∀ (ls : zL) (st : zS) (h : zH), zx 137 89 ls st h = zgo 137 (zpure (.iload 5) 91 0 [] ls st h)) ∧
  (∀ (ls : zL) (st : zS) (h : zH), zx 137 91 ls st h = zca 137 91 94 ls 133 2 7 (ztake 2 st) h) ∧
  (∀ (ls : zL) (st : zS) (h : zH), zx 137 94 ls st h = zgo 137 (zpure (.aload_n 0) 95 0 [] ls st h)) ∧
  (∀ (ls : zL) (st : zS) (h : zH), zx 137 95 ls st h = zgo 137 (zpure (.aload_n 0) 96 0 [] ls st h)) ∧
  (∀ (ls : zL) (st : zS) (h : zH), zx 137 96 ls st h = zgo 137 (zpure (.getfield 33) 99 0 [6, 9] ls st h)) ∧
  (∀ (ls : zL) (st : zS) (h : zH), zx 137 99 ls st h = zgo 137 (zpure (.iload_n 1) 100 0 [] ls st h)) :=
  ⟨zx_0 rfl, zx_0 rfl, zx_0 rfl, zx_0 rfl, zx_0 rfl, zx_0 rfl, zx_0 rfl, zx_0 rfl, zx_0 rfl, zx_0 rfl, zx_0 rfl, zx_0 rfl, zx_0 rfl, zx_0 rfl, zx_0 rfl, zx_0 rfl, zx_0 rfl, zx_0 rfl, zx_0 rfl, zx_0 rfl, zx_0 rfl, zx_0 rfl, zx_0 rfl, zx_0 rfl, zx_0 rfl, zx_0 rfl, zx_0 rfl, zx_0 rfl, zx_0 rfl, zx_0 rfl, zx_0 rfl, zx_0 rfl, zx_0 rfl, zx_0 rfl, zx_2c rfl, zx_0 rfl, zx_0 rfl, zx_0 rfl, zx_0 rfl, zx_0 rfl, zx_0 rfl, zx_0 rfl, zx_0 rfl, zx_0 rfl, zx_0 rfl, zx_2c rfl, zx_0 rfl, zx_0 rfl, zx_0 rfl, zx_1 rfl, zx_0 rfl, zx_0 rfl, zx_0 rfl, zx_0 rfl, zx_0 rfl, zx_2c rfl, zx_0 rfl, zx_0 rfl, zx_0 rfl, zx_0 rfl⟩
set_option maxRecDepth 4000 in
theorem z137_b1 :
  (∀ (ls : zL) (st : zS) (h : zH), zx 137 100 ls st h = zgo 137 (zpure .iaload 101 0 [] ls st h)) ∧
  (∀ (ls : zL) (st : zS) (h : zH), zx 137 101 ls st h = zgo 137 (zpure (.iload_n 1) 102 0 [] ls st h)) ∧
  (∀ (ls : zL) (st : zS) (h : zH), zx 137 102 ls st h = zgo 137 (zpure (.iload 5) 104 0 [] ls st h)) ∧
  (∀ (ls : zL) (st : zS) (h : zH), zx 137 104 ls st h = zgo 137 (zpure (.iload 5) 106 0 [] ls st h)) ∧
  (∀ (ls : zL) (st : zS) (h : zH), zx 137 106 ls st h = zgo 137 (zpure (.iload_n 3) 107 0 [] ls st h)) ∧
  (∀ (ls : zL) (st : zS) (h : zH), zx 137 107 ls st h = zgo 137 (zpure .iadd 108 0 [] ls st h)) ∧
  (∀ (ls : zL) (st : zS) (h : zH), zx 137 108 ls st h = zca 137 108 111 ls 132 5 7 (ztake 5 st) h) ∧
  (∀ (ls : zL) (st : zS) (h : zH), zx 137 111 ls st h = zgo 137 (zpure (.iload 5) 113 0 [] ls st h)) ∧
  (∀ (ls : zL) (st : zS) (h : zH), zx 137 113 ls st h = zgo 137 (zpure (.iload_n 3) 114 0 [] ls st h)) ∧
  (∀ (ls : zL) (st : zS) (h : zH), zx 137 114 ls st h = zgo 137 (zpure .iadd 115 0 [] ls st h)) ∧
  (∀ (ls : zL) (st : zS) (h : zH), zx 137 115 ls st h = zret 0 st h) ∧
  (∀ (ls : zL) (st : zS) (h : zH), zx 137 116 ls st h = zgo 137 (zpure (.iload 4) 118 0 [] ls st h)) ∧
  (∀ (ls : zL) (st : zS) (h : zH), zx 137 118 ls st h = zgo 137 (zpure (.bipush 106) 120 0 [] ls st h)) ∧
  (∀ (ls : zL) (st : zS) (h : zH), zx 137 120 ls st h = zgo 137 (zpure (.if_icmp .ne 51) 123 171 [] ls st h)) ∧
  (∀ (ls : zL) (st : zS) (h : zH), zx 137 123 ls st h = zgo 137 (zpure (.iload 5) 125 0 [] ls st h)) ∧
  (∀ (ls : zL) (st : zS) (h : zH), zx 137 125 ls st h = zgo 137 (zpure (.iload_n 3) 126 0 [] ls st h)) ∧
  (∀ (ls : zL) (st : zS) (h : zH), zx 137 126 ls st h = zgo 137 (zpure .iadd 127 0 [] ls st h)) ∧
  (∀ (ls : zL) (st : zS) (h : zH), zx 137 127 ls st h = zgo 137 (zpure (.iload_n 2) 128 0 [] ls st h)) ∧
  (∀ (ls : zL) (st : zS) (h : zH), zx 137 128 ls st h = zgo 137 (zpure (.if_icmp .gt 5) 131 133 [] ls st h)) ∧
  (∀ (ls : zL) (st : zS) (h : zH), zx 137 131 ls st h = zgo 137 (zpure (.iload_n 2) 132 0 [] ls st h)) ∧
  (∀ (ls : zL) (st : zS) (h : zH), zx 137 132 ls st h = zret 0 st h) ∧
  (∀ (ls : zL) (st : zS) (h : zH), zx 137 133 ls st h = zgo 137 (zpure (.aload_n 0) 134 0 [] ls st h)) ∧
  (∀ (ls : zL) (st : zS) (h : zH), zx 137 134 ls st h = zgo 137 (zpure (.getfield 72) 137 0 [6, 24] ls st h)) ∧
  (∀ (ls : zL) (st : zS) (h : zH), zx 137 137 ls st h = zgo 137 (zpure (.iload_n 1) 138 0 [] ls st h)) ∧
  (∀ (ls : zL) (st : zS) (h : zH), zx 137 138 ls st h = zgo 137 (zpure (.iload 5) 140 0 [] ls st h)) ∧
  (∀ (ls : zL) (st : zS) (h : zH), zx 137 140 ls st h = zgo 137 (zpure (.iload_n 2) 141 0 [] ls st h)) ∧
  (∀ (ls : zL) (st : zS) (h : zH), zx 137 141 ls st h = zgo 137 (zpure (.if_icmp .ge 7) 144 148 [] ls st h)) ∧
  (∀ (ls : zL) (st : zS) (h : zH), zx 137 144 ls st h = zgo 137 (zpure (.iconst 1) 145 0 [] ls st h)) ∧
  (∀ (ls : zL) (st : zS) (h : zH), zx 137 145 ls st h = zgo 137 (zpure (.goto 4) 148 149 [] ls st h)) ∧
  (∀ (ls : zL) (st : zS) (h : zH), zx 137 148 ls st h = zgo 137 (zpure (.iconst 0) 149 0 [] ls st h)) ∧
  (∀ (ls : zL) (st : zS) (h : zH), zx 137 149 ls st h = zgo 137 (zpure .bastore 150 0 [] ls st h)) ∧
  (∀ (ls : zL) (st : zS) (h : zH), zx 137 150 ls st h = zgo 137 (zpure (.aload_n 0) 151 0 [] ls st h)) ∧
  (∀ (ls : zL) (st : zS) (h : zH), zx 137 151 ls st h = zgo 137 (zpure (.aload_n 0) 152 0 [] ls st h)) ∧
  (∀ (ls : zL) (st : zS) (h : zH), zx 137 152 ls st h = zgo 137 (zpure (.getfield 33) 155 0 [6, 9] ls st h)) ∧
  (∀ (ls : zL) (st : zS) (h : zH), zx 137 155 ls st h = zgo 137 (zpure (.iload_n 1) 156 0 [] ls st h)) ∧
  (∀ (ls : zL) (st : zS) (h : zH), zx 137 156 ls st h = zgo 137 (zpure .iaload 157 0 [] ls st h)) ∧
  (∀ (ls : zL) (st : zS) (h : zH), zx 137 157 ls st h = zgo 137 (zpure (.iload_n 1) 158 0 [] ls st h)) ∧
  (∀ (ls : zL) (st : zS) (h : zH), zx 137 158 ls st h = zgo 137 (zpure (.iload_n 2) 159 0 [] ls st h)) ∧
  (∀ (ls : zL) (st : zS) (h : zH), zx 137 159 ls st h = zgo 137 (zpure (.iload 5) 161 0 [] ls st h)) ∧
  (∀ (ls : zL) (st : zS) (h : zH), zx 137 161 ls st h = zgo 137 (zpure (.iload_n 3) 162 0 [] ls st h)) ∧
  (∀ (ls : zL) (st : zS) (h : zH), zx 137 162 ls st h = zgo 137 (zpure .iadd 163 0 [] ls st h)) ∧
  (∀ (ls : zL) (st : zS) (h : zH), zx 137 163 ls st h = zca 137 163 166 ls 132 5 7 (ztake 5 st) h) ∧
  (∀ (ls : zL) (st : zS) (h : zH), zx 137 166 ls st h = zgo 137 (zpure (.iload 5) 168 0 [] ls st h)) ∧
  (∀ (ls : zL) (st : zS) (h : zH), zx 137 168 ls st h = zgo 137 (zpure (.iload_n 3) 169 0 [] ls st h)) ∧
  (∀ (ls : zL) (st : zS) (h : zH), zx 137 169 ls st h = zgo 137 (zpure .iadd 170 0 [] ls st h)) ∧
  (∀ (ls : zL) (st : zS) (h : zH), zx 137 170 ls st h = zret 0 st h) ∧
  (∀ (ls : zL) (st : zS) (h : zH), zx 137 171 ls st h = zgo 137 (zpure (.aload_n 0) 172 0 [] ls st h)) ∧
  (∀ (ls : zL) (st : zS) (h : zH), zx 137 172 ls st h = zgo 137 (zpure (.aload_n 0) 173 0 [] ls st h)) ∧
  (∀ (ls : zL) (st : zS) (h : zH), zx 137 173 ls st h = zgo 137 (zpure (.getfield 33) 176 0 [6, 9] ls st h)) ∧
  (∀ (ls : zL) (st : zS) (h : zH), zx 137 176 ls st h = zgo 137 (zpure (.iload_n 1) 177 0 [] ls st h)) ∧
  (∀ (ls : zL) (st : zS) (h : zH), zx 137 177 ls st h = zgo 137 (zpure .iaload 178 0 [] ls st h)) ∧
  (∀ (ls : zL) (st : zS) (h : zH), zx 137 178 ls st h = zgo 137 (zpure (.iload_n 1) 179 0 [] ls st h)) ∧
  (∀ (ls : zL) (st : zS) (h : zH), zx 137 179 ls st h = zgo 137 (zpure (.iload_n 2) 180 0 [] ls st h)) ∧
  (∀ (ls : zL) (st : zS) (h : zH), zx 137 180 ls st h = zgo 137 (zpure (.iload_n 2) 181 0 [] ls st h)) ∧
  (∀ (ls : zL) (st : zS) (h : zH), zx 137 181 ls st h = zgo 137 (zpure (.iload_n 3) 182 0 [] ls st h)) ∧
  (∀ (ls : zL) (st : zS) (h : zH), zx 137 182 ls st h = zgo 137 (zpure .iadd 183 0 [] ls st h)) ∧
  (∀ (ls : zL) (st : zS) (h : zH), zx 137 183 ls st h = zca 137 183 186 ls 132 5 7 (ztake 5 st) h) ∧
  (∀ (ls : zL) (st : zS) (h : zH), zx 137 186 ls st h = zgo 137 (zpure (.iload_n 2) 187 0 [] ls st h)) ∧
  (∀ (ls : zL) (st : zS) (h : zH), zx 137 187 ls st h = zgo 137 (zpure (.iload_n 3) 188 0 [] ls st h)) ∧
  (∀ (ls : zL) (st : zS) (h : zH), zx 137 188 ls st h = zgo 137 (zpure .iadd 189 0 [] ls st h)) :=
  ⟨zx_0 rfl, zx_0 rfl, zx_0 rfl, zx_0 rfl, zx_0 rfl, zx_0 rfl, zx_2c rfl, zx_0 rfl, zx_0 rfl, zx_0 rfl, zx_1 rfl, zx_0 rfl, zx_0 rfl, zx_0 rfl, zx_0 rfl, zx_0 rfl, zx_0 rfl, zx_0 rfl, zx_0 rfl, zx_0 rfl, zx_1 rfl, zx_0 rfl, zx_0 rfl, zx_0 rfl, zx_0 rfl, zx_0 rfl, zx_0 rfl, zx_0 rfl, zx_0 rfl, zx_0 rfl, zx_0 rfl, zx_0 rfl, zx_0 rfl, zx_0 rfl, zx_0 rfl, zx_0 rfl, zx_0 rfl, zx_0 rfl, zx_0 rfl, zx_0 rfl, zx_0 rfl, zx_2c rfl, zx_0 rfl, zx_0 rfl, zx_0 rfl, zx_1 rfl, zx_0 rfl, zx_0 rfl, zx_0 rfl, zx_0 rfl, zx_0 rfl, zx_0 rfl, zx_0 rfl, zx_0 rfl, zx_0 rfl, zx_0 rfl, zx_2c rfl, zx_0 rfl, zx_0 rfl, zx_0 rfl⟩
set_option maxRecDepth 4000 in
theorem z137_b2 :
  (∀ (ls : zL) (st : zS) (h : zH), zx 137 189 ls st h = zret 0 st h) :=
  zx_1 rfl
theorem z138_9 : ∀ (ls : zL) (st : zS) (h : zH), zx 138 9 ls st h = zgo 138 (zpure (.iload_n 2) 10 0 [] ls st h) := zx_0 rfl
/-- X6_layOut -/
theorem z138 :
  (∀ (ls : zL) (st : zS) (h : zH), zx 138 0 ls st h = zgo 138 (zpure (.aload_n 0) 1 0 [] ls st h)) ∧
  (∀ (ls : zL) (st : zS) (h : zH), zx 138 1 ls st h = zgo 138 (zpure (.iconst 0) 2 0 [] ls st h)) ∧
  (∀ (ls : zL) (st : zS) (h : zH), zx 138 2 ls st h = zgo 138 (zpure (.putfield 171) 5 0 [6, 21, 0] ls st h)) ∧
  (∀ (ls : zL) (st : zS) (h : zH), zx 138 5 ls st h = zgo 138 (zpure (.iconst 0) 6 0 [] ls st h)) ∧
  (∀ (ls : zL) (st : zS) (h : zH), zx 138 6 ls st h = zgo 138 (zpure (.istore_n 1) 7 0 [] ls st h)) ∧
  (∀ (ls : zL) (st : zS) (h : zH), zx 138 7 ls st h = zgo 138 (zpure (.iconst 0) 8 0 [] ls st h)) ∧
  (∀ (ls : zL) (st : zS) (h : zH), zx 138 8 ls st h = zgo 138 (zpure (.istore_n 2) 9 0 [] ls st h)) ∧
  (∀ (ls : zL) (st : zS) (h : zH), zx 138 10 ls st h = zgo 138 (zpure (.aload_n 0) 11 0 [] ls st h)) ∧
  (∀ (ls : zL) (st : zS) (h : zH), zx 138 11 ls st h = zgo 138 (zpure (.getfield 109) 14 0 [6, 15] ls st h)) ∧
  (∀ (ls : zL) (st : zS) (h : zH), zx 138 14 ls st h = zgo 138 (zpure (.if_icmp .ge 57) 17 71 [] ls st h)) ∧
  (∀ (ls : zL) (st : zS) (h : zH), zx 138 17 ls st h = zgo 138 (zpure (.aload_n 0) 18 0 [] ls st h)) ∧
  (∀ (ls : zL) (st : zS) (h : zH), zx 138 18 ls st h = zgo 138 (zpure (.getfield 69) 21 0 [6, 23] ls st h)) ∧
  (∀ (ls : zL) (st : zS) (h : zH), zx 138 21 ls st h = zgo 138 (zpure (.iload_n 2) 22 0 [] ls st h)) ∧
  (∀ (ls : zL) (st : zS) (h : zH), zx 138 22 ls st h = zgo 138 (zpure (.iconst 0) 23 0 [] ls st h)) ∧
  (∀ (ls : zL) (st : zS) (h : zH), zx 138 23 ls st h = zgo 138 (zpure .bastore 24 0 [] ls st h)) ∧
  (∀ (ls : zL) (st : zS) (h : zH), zx 138 24 ls st h = zgo 138 (zpure (.aload_n 0) 25 0 [] ls st h)) ∧
  (∀ (ls : zL) (st : zS) (h : zH), zx 138 25 ls st h = zgo 138 (zpure (.getfield 72) 28 0 [6, 24] ls st h)) ∧
  (∀ (ls : zL) (st : zS) (h : zH), zx 138 28 ls st h = zgo 138 (zpure (.iload_n 2) 29 0 [] ls st h)) ∧
  (∀ (ls : zL) (st : zS) (h : zH), zx 138 29 ls st h = zgo 138 (zpure (.iconst 0) 30 0 [] ls st h)) ∧
  (∀ (ls : zL) (st : zS) (h : zH), zx 138 30 ls st h = zgo 138 (zpure .bastore 31 0 [] ls st h)) ∧
  (∀ (ls : zL) (st : zS) (h : zH), zx 138 31 ls st h = zgo 138 (zpure (.aload_n 0) 32 0 [] ls st h)) ∧
  (∀ (ls : zL) (st : zS) (h : zH), zx 138 32 ls st h = zgo 138 (zpure (.getfield 75) 35 0 [6, 25] ls st h)) ∧
  (∀ (ls : zL) (st : zS) (h : zH), zx 138 35 ls st h = zgo 138 (zpure (.iload_n 2) 36 0 [] ls st h)) ∧
  (∀ (ls : zL) (st : zS) (h : zH), zx 138 36 ls st h = zgo 138 (zpure (.iconst (-1)) 37 0 [] ls st h)) ∧
  (∀ (ls : zL) (st : zS) (h : zH), zx 138 37 ls st h = zgo 138 (zpure .iastore 38 0 [] ls st h)) ∧
  (∀ (ls : zL) (st : zS) (h : zH), zx 138 38 ls st h = zgo 138 (zpure (.aload_n 0) 39 0 [] ls st h)) ∧
  (∀ (ls : zL) (st : zS) (h : zH), zx 138 39 ls st h = zgo 138 (zpure (.getfield 66) 42 0 [6, 22] ls st h)) ∧
  (∀ (ls : zL) (st : zS) (h : zH), zx 138 42 ls st h = zgo 138 (zpure (.iload_n 2) 43 0 [] ls st h)) ∧
  (∀ (ls : zL) (st : zS) (h : zH), zx 138 43 ls st h = zgo 138 (zpure (.aload_n 0) 44 0 [] ls st h)) ∧
  (∀ (ls : zL) (st : zS) (h : zH), zx 138 44 ls st h = zgo 138 (zpure (.iload_n 2) 45 0 [] ls st h)) ∧
  (∀ (ls : zL) (st : zS) (h : zH), zx 138 45 ls st h = zca 138 45 48 ls 136 4 7 (ztake 2 st) h) ∧
  (∀ (ls : zL) (st : zS) (h : zH), zx 138 48 ls st h = zgo 138 (zpure .bastore 49 0 [] ls st h)) ∧
  (∀ (ls : zL) (st : zS) (h : zH), zx 138 49 ls st h = zgo 138 (zpure (.aload_n 0) 50 0 [] ls st h)) ∧
  (∀ (ls : zL) (st : zS) (h : zH), zx 138 50 ls st h = zgo 138 (zpure (.getfield 66) 53 0 [6, 22] ls st h)) ∧
  (∀ (ls : zL) (st : zS) (h : zH), zx 138 53 ls st h = zgo 138 (zpure (.iload_n 2) 54 0 [] ls st h)) ∧
  (∀ (ls : zL) (st : zS) (h : zH), zx 138 54 ls st h = zgo 138 (zpure .baload 55 0 [] ls st h)) ∧
  (∀ (ls : zL) (st : zS) (h : zH), zx 138 55 ls st h = zgo 138 (zpure (.ifCond .ne 10) 58 65 [] ls st h)) ∧
  (∀ (ls : zL) (st : zS) (h : zH), zx 138 58 ls st h = zgo 138 (zpure (.aload_n 0) 59 0 [] ls st h)) ∧
  (∀ (ls : zL) (st : zS) (h : zH), zx 138 59 ls st h = zgo 138 (zpure (.iload_n 2) 60 0 [] ls st h)) ∧
  (∀ (ls : zL) (st : zS) (h : zH), zx 138 60 ls st h = zgo 138 (zpure (.iload_n 1) 61 0 [] ls st h)) ∧
  (∀ (ls : zL) (st : zS) (h : zH), zx 138 61 ls st h = zca 138 61 64 ls 137 6 7 (ztake 3 st) h) ∧
  (∀ (ls : zL) (st : zS) (h : zH), zx 138 64 ls st h = zgo 138 (zpure (.istore_n 1) 65 0 [] ls st h)) ∧
  (∀ (ls : zL) (st : zS) (h : zH), zx 138 65 ls st h = zgo 138 (zpure (.iinc 2 1) 68 0 [] ls st h)) ∧
  (∀ (ls : zL) (st : zS) (h : zH), zx 138 68 ls st h = zgo 138 (zpure (.goto (-59)) 71 9 [] ls st h)) ∧
  (∀ (ls : zL) (st : zS) (h : zH), zx 138 71 ls st h = zgo 138 (zpure (.iload_n 1) 72 0 [] ls st h)) ∧
  (∀ (ls : zL) (st : zS) (h : zH), zx 138 72 ls st h = zgo 138 (zpure (.sipush 3600) 75 0 [] ls st h)) ∧
  (∀ (ls : zL) (st : zS) (h : zH), zx 138 75 ls st h = zgo 138 (zpure (.if_icmp .ge 14) 78 89 [] ls st h)) ∧
  (∀ (ls : zL) (st : zS) (h : zH), zx 138 78 ls st h = zgo 138 (zpure (.aload_n 0) 79 0 [] ls st h)) ∧
  (∀ (ls : zL) (st : zS) (h : zH), zx 138 79 ls st h = zgo 138 (zpure (.iload_n 1) 80 0 [] ls st h)) ∧
  (∀ (ls : zL) (st : zS) (h : zH), zx 138 80 ls st h = zgo 138 (zpure (.sipush 3600) 83 0 [] ls st h)) ∧
  (∀ (ls : zL) (st : zS) (h : zH), zx 138 83 ls st h = zca 138 83 86 ls 135 5 7 (ztake 3 st) h) ∧
  (∀ (ls : zL) (st : zS) (h : zH), zx 138 86 ls st h = zgo 138 (zpure (.goto 10) 89 96 [] ls st h)) ∧
  (∀ (ls : zL) (st : zS) (h : zH), zx 138 89 ls st h = zgo 138 (zpure (.aload_n 0) 90 0 [] ls st h)) ∧
  (∀ (ls : zL) (st : zS) (h : zH), zx 138 90 ls st h = zgo 138 (zpure (.sipush 3600) 93 0 [] ls st h)) ∧
  (∀ (ls : zL) (st : zS) (h : zH), zx 138 93 ls st h = zca 138 93 96 ls 133 2 7 (ztake 2 st) h) ∧
  (∀ (ls : zL) (st : zS) (h : zH), zx 138 96 ls st h = zret 8 st h) :=
  ⟨zx_0 rfl, zx_0 rfl, zx_0 rfl, zx_0 rfl, zx_0 rfl, zx_0 rfl, zx_0 rfl, zx_0 rfl, zx_0 rfl, zx_0 rfl, zx_0 rfl, zx_0 rfl, zx_0 rfl, zx_0 rfl, zx_0 rfl, zx_0 rfl, zx_0 rfl, zx_0 rfl, zx_0 rfl, zx_0 rfl, zx_0 rfl, zx_0 rfl, zx_0 rfl, zx_0 rfl, zx_0 rfl, zx_0 rfl, zx_0 rfl, zx_0 rfl, zx_0 rfl, zx_0 rfl, zx_2c rfl, zx_0 rfl, zx_0 rfl, zx_0 rfl, zx_0 rfl, zx_0 rfl, zx_0 rfl, zx_0 rfl, zx_0 rfl, zx_0 rfl, zx_2c rfl, zx_0 rfl, zx_0 rfl, zx_0 rfl, zx_0 rfl, zx_0 rfl, zx_0 rfl, zx_0 rfl, zx_0 rfl, zx_0 rfl, zx_2c rfl, zx_0 rfl, zx_0 rfl, zx_0 rfl, zx_2c rfl, zx_1 rfl⟩
/-- X6_fate -/
theorem z139 :
  (∀ (ls : zL) (st : zS) (h : zH), zx 139 0 ls st h = zgo 139 (zpure (.aload_n 0) 1 0 [] ls st h)) ∧
  (∀ (ls : zL) (st : zS) (h : zH), zx 139 1 ls st h = zgo 139 (zpure (.aload_n 0) 2 0 [] ls st h)) ∧
  (∀ (ls : zL) (st : zS) (h : zH), zx 139 2 ls st h = zgo 139 (zpure (.iload_n 1) 3 0 [] ls st h)) ∧
  (∀ (ls : zL) (st : zS) (h : zH), zx 139 3 ls st h = zca 139 3 6 ls 114 2 7 (ztake 2 st) h) ∧
  (∀ (ls : zL) (st : zS) (h : zH), zx 139 6 ls st h = zgo 139 (zpure (.ifCond .eq 7) 9 13 [] ls st h)) ∧
  (∀ (ls : zL) (st : zS) (h : zH), zx 139 9 ls st h = zgo 139 (zpure (.iconst 0) 10 0 [] ls st h)) ∧
  (∀ (ls : zL) (st : zS) (h : zH), zx 139 10 ls st h = zgo 139 (zpure (.goto 4) 13 14 [] ls st h)) ∧
  (∀ (ls : zL) (st : zS) (h : zH), zx 139 13 ls st h = zgo 139 (zpure (.iconst 1) 14 0 [] ls st h)) ∧
  (∀ (ls : zL) (st : zS) (h : zH), zx 139 14 ls st h = zgo 139 (zpure (.putfield 84) 17 0 [6, 32, 0] ls st h)) ∧
  (∀ (ls : zL) (st : zS) (h : zH), zx 139 17 ls st h = zgo 139 (zpure (.aload_n 0) 18 0 [] ls st h)) ∧
  (∀ (ls : zL) (st : zS) (h : zH), zx 139 18 ls st h = zgo 139 (zpure (.getfield 84) 21 0 [6, 32] ls st h)) ∧
  (∀ (ls : zL) (st : zS) (h : zH), zx 139 21 ls st h = zgo 139 (zpure (.ifCond .le 6) 24 27 [] ls st h)) ∧
  (∀ (ls : zL) (st : zS) (h : zH), zx 139 24 ls st h = zgo 139 (zpure (.bipush 32) 26 0 [] ls st h)) ∧
  (∀ (ls : zL) (st : zS) (h : zH), zx 139 26 ls st h = zret 3 st h) ∧
  (∀ (ls : zL) (st : zS) (h : zH), zx 139 27 ls st h = zgo 139 (zpure (.aload_n 0) 28 0 [] ls st h)) ∧
  (∀ (ls : zL) (st : zS) (h : zH), zx 139 28 ls st h = zca 139 28 31 ls 138 3 7 (ztake 1 st) h) ∧
  (∀ (ls : zL) (st : zS) (h : zH), zx 139 31 ls st h = zgo 139 (zpure (.aload_n 0) 32 0 [] ls st h)) ∧
  (∀ (ls : zL) (st : zS) (h : zH), zx 139 32 ls st h = zgo 139 (zpure (.getfield 66) 35 0 [6, 22] ls st h)) ∧
  (∀ (ls : zL) (st : zS) (h : zH), zx 139 35 ls st h = zgo 139 (zpure (.iload_n 1) 36 0 [] ls st h)) ∧
  (∀ (ls : zL) (st : zS) (h : zH), zx 139 36 ls st h = zgo 139 (zpure .baload 37 0 [] ls st h)) ∧
  (∀ (ls : zL) (st : zS) (h : zH), zx 139 37 ls st h = zgo 139 (zpure (.ifCond .eq 8) 40 45 [] ls st h)) ∧
  (∀ (ls : zL) (st : zS) (h : zH), zx 139 40 ls st h = zgo 139 (zpure (.bipush 114) 42 0 [] ls st h)) ∧
  (∀ (ls : zL) (st : zS) (h : zH), zx 139 42 ls st h = zgo 139 (zpure (.goto 48) 45 90 [] ls st h)) ∧
  (∀ (ls : zL) (st : zS) (h : zH), zx 139 45 ls st h = zgo 139 (zpure (.aload_n 0) 46 0 [] ls st h)) ∧
  (∀ (ls : zL) (st : zS) (h : zH), zx 139 46 ls st h = zgo 139 (zpure (.getfield 75) 49 0 [6, 25] ls st h)) ∧
  (∀ (ls : zL) (st : zS) (h : zH), zx 139 49 ls st h = zgo 139 (zpure (.iload_n 1) 50 0 [] ls st h)) ∧
  (∀ (ls : zL) (st : zS) (h : zH), zx 139 50 ls st h = zgo 139 (zpure .iaload 51 0 [] ls st h)) ∧
  (∀ (ls : zL) (st : zS) (h : zH), zx 139 51 ls st h = zgo 139 (zpure (.iconst (-1)) 52 0 [] ls st h)) ∧
  (∀ (ls : zL) (st : zS) (h : zH), zx 139 52 ls st h = zgo 139 (zpure (.if_icmp .ne 8) 55 60 [] ls st h)) ∧
  (∀ (ls : zL) (st : zS) (h : zH), zx 139 55 ls st h = zgo 139 (zpure (.bipush 120) 57 0 [] ls st h)) ∧
  (∀ (ls : zL) (st : zS) (h : zH), zx 139 57 ls st h = zgo 139 (zpure (.goto 33) 60 90 [] ls st h)) ∧
  (∀ (ls : zL) (st : zS) (h : zH), zx 139 60 ls st h = zgo 139 (zpure (.aload_n 0) 61 0 [] ls st h)) ∧
  (∀ (ls : zL) (st : zS) (h : zH), zx 139 61 ls st h = zgo 139 (zpure (.getfield 69) 64 0 [6, 23] ls st h)) ∧
  (∀ (ls : zL) (st : zS) (h : zH), zx 139 64 ls st h = zgo 139 (zpure (.iload_n 1) 65 0 [] ls st h)) ∧
  (∀ (ls : zL) (st : zS) (h : zH), zx 139 65 ls st h = zgo 139 (zpure .baload 66 0 [] ls st h)) ∧
  (∀ (ls : zL) (st : zS) (h : zH), zx 139 66 ls st h = zgo 139 (zpure (.ifCond .eq 8) 69 74 [] ls st h)) ∧
  (∀ (ls : zL) (st : zS) (h : zH), zx 139 69 ls st h = zgo 139 (zpure (.bipush 99) 71 0 [] ls st h)) ∧
  (∀ (ls : zL) (st : zS) (h : zH), zx 139 71 ls st h = zgo 139 (zpure (.goto 19) 74 90 [] ls st h)) ∧
  (∀ (ls : zL) (st : zS) (h : zH), zx 139 74 ls st h = zgo 139 (zpure (.aload_n 0) 75 0 [] ls st h)) ∧
  (∀ (ls : zL) (st : zS) (h : zH), zx 139 75 ls st h = zgo 139 (zpure (.getfield 72) 78 0 [6, 24] ls st h)) ∧
  (∀ (ls : zL) (st : zS) (h : zH), zx 139 78 ls st h = zgo 139 (zpure (.iload_n 1) 79 0 [] ls st h)) ∧
  (∀ (ls : zL) (st : zS) (h : zH), zx 139 79 ls st h = zgo 139 (zpure .baload 80 0 [] ls st h)) ∧
  (∀ (ls : zL) (st : zS) (h : zH), zx 139 80 ls st h = zgo 139 (zpure (.ifCond .eq 8) 83 88 [] ls st h)) ∧
  (∀ (ls : zL) (st : zS) (h : zH), zx 139 83 ls st h = zgo 139 (zpure (.bipush 106) 85 0 [] ls st h)) ∧
  (∀ (ls : zL) (st : zS) (h : zH), zx 139 85 ls st h = zgo 139 (zpure (.goto 5) 88 90 [] ls st h)) ∧
  (∀ (ls : zL) (st : zS) (h : zH), zx 139 88 ls st h = zgo 139 (zpure (.bipush 97) 90 0 [] ls st h)) ∧
  (∀ (ls : zL) (st : zS) (h : zH), zx 139 90 ls st h = zret 3 st h) :=
  ⟨zx_0 rfl, zx_0 rfl, zx_0 rfl, zx_2c rfl, zx_0 rfl, zx_0 rfl, zx_0 rfl, zx_0 rfl, zx_0 rfl, zx_0 rfl, zx_0 rfl, zx_0 rfl, zx_0 rfl, zx_1 rfl, zx_0 rfl, zx_2c rfl, zx_0 rfl, zx_0 rfl, zx_0 rfl, zx_0 rfl, zx_0 rfl, zx_0 rfl, zx_0 rfl, zx_0 rfl, zx_0 rfl, zx_0 rfl, zx_0 rfl, zx_0 rfl, zx_0 rfl, zx_0 rfl, zx_0 rfl, zx_0 rfl, zx_0 rfl, zx_0 rfl, zx_0 rfl, zx_0 rfl, zx_0 rfl, zx_0 rfl, zx_0 rfl, zx_0 rfl, zx_0 rfl, zx_0 rfl, zx_0 rfl, zx_0 rfl, zx_0 rfl, zx_0 rfl, zx_1 rfl⟩
/-- X6_isAired -/
theorem z140 :
  (∀ (ls : zL) (st : zS) (h : zH), zx 140 0 ls st h = zgo 140 (zpure (.aload_n 0) 1 0 [] ls st h)) ∧
  (∀ (ls : zL) (st : zS) (h : zH), zx 140 1 ls st h = zgo 140 (zpure (.aload_n 0) 2 0 [] ls st h)) ∧
  (∀ (ls : zL) (st : zS) (h : zH), zx 140 2 ls st h = zgo 140 (zpure (.iload_n 1) 3 0 [] ls st h)) ∧
  (∀ (ls : zL) (st : zS) (h : zH), zx 140 3 ls st h = zca 140 3 6 ls 114 2 7 (ztake 2 st) h) ∧
  (∀ (ls : zL) (st : zS) (h : zH), zx 140 6 ls st h = zgo 140 (zpure (.ifCond .eq 7) 9 13 [] ls st h)) ∧
  (∀ (ls : zL) (st : zS) (h : zH), zx 140 9 ls st h = zgo 140 (zpure (.iconst 0) 10 0 [] ls st h)) ∧
  (∀ (ls : zL) (st : zS) (h : zH), zx 140 10 ls st h = zgo 140 (zpure (.goto 4) 13 14 [] ls st h)) ∧
  (∀ (ls : zL) (st : zS) (h : zH), zx 140 13 ls st h = zgo 140 (zpure (.iconst 1) 14 0 [] ls st h)) ∧
  (∀ (ls : zL) (st : zS) (h : zH), zx 140 14 ls st h = zgo 140 (zpure (.putfield 84) 17 0 [6, 32, 0] ls st h)) ∧
  (∀ (ls : zL) (st : zS) (h : zH), zx 140 17 ls st h = zgo 140 (zpure (.aload_n 0) 18 0 [] ls st h)) ∧
  (∀ (ls : zL) (st : zS) (h : zH), zx 140 18 ls st h = zgo 140 (zpure (.getfield 84) 21 0 [6, 32] ls st h)) ∧
  (∀ (ls : zL) (st : zS) (h : zH), zx 140 21 ls st h = zgo 140 (zpure (.ifCond .ne 35) 24 56 [] ls st h)) ∧
  (∀ (ls : zL) (st : zS) (h : zH), zx 140 24 ls st h = zgo 140 (zpure (.aload_n 0) 25 0 [] ls st h)) ∧
  (∀ (ls : zL) (st : zS) (h : zH), zx 140 25 ls st h = zca 140 25 28 ls 138 3 7 (ztake 1 st) h) ∧
  (∀ (ls : zL) (st : zS) (h : zH), zx 140 28 ls st h = zgo 140 (zpure (.aload_n 0) 29 0 [] ls st h)) ∧
  (∀ (ls : zL) (st : zS) (h : zH), zx 140 29 ls st h = zgo 140 (zpure (.aload_n 0) 30 0 [] ls st h)) ∧
  (∀ (ls : zL) (st : zS) (h : zH), zx 140 30 ls st h = zgo 140 (zpure (.getfield 66) 33 0 [6, 22] ls st h)) ∧
  (∀ (ls : zL) (st : zS) (h : zH), zx 140 33 ls st h = zgo 140 (zpure (.iload_n 1) 34 0 [] ls st h)) ∧
  (∀ (ls : zL) (st : zS) (h : zH), zx 140 34 ls st h = zgo 140 (zpure .baload 35 0 [] ls st h)) ∧
  (∀ (ls : zL) (st : zS) (h : zH), zx 140 35 ls st h = zgo 140 (zpure (.ifCond .ne 13) 38 48 [] ls st h)) ∧
  (∀ (ls : zL) (st : zS) (h : zH), zx 140 38 ls st h = zgo 140 (zpure (.aload_n 0) 39 0 [] ls st h)) ∧
  (∀ (ls : zL) (st : zS) (h : zH), zx 140 39 ls st h = zgo 140 (zpure (.getfield 75) 42 0 [6, 25] ls st h)) ∧
  (∀ (ls : zL) (st : zS) (h : zH), zx 140 42 ls st h = zgo 140 (zpure (.iload_n 1) 43 0 [] ls st h)) ∧
  (∀ (ls : zL) (st : zS) (h : zH), zx 140 43 ls st h = zgo 140 (zpure .iaload 44 0 [] ls st h)) ∧
  (∀ (ls : zL) (st : zS) (h : zH), zx 140 44 ls st h = zgo 140 (zpure (.iconst (-1)) 45 0 [] ls st h)) ∧
  (∀ (ls : zL) (st : zS) (h : zH), zx 140 45 ls st h = zgo 140 (zpure (.if_icmp .ne 7) 48 52 [] ls st h)) ∧
  (∀ (ls : zL) (st : zS) (h : zH), zx 140 48 ls st h = zgo 140 (zpure (.iconst 2) 49 0 [] ls st h)) ∧
  (∀ (ls : zL) (st : zS) (h : zH), zx 140 49 ls st h = zgo 140 (zpure (.goto 4) 52 53 [] ls st h)) ∧
  (∀ (ls : zL) (st : zS) (h : zH), zx 140 52 ls st h = zgo 140 (zpure (.iconst 0) 53 0 [] ls st h)) ∧
  (∀ (ls : zL) (st : zS) (h : zH), zx 140 53 ls st h = zgo 140 (zpure (.putfield 84) 56 0 [6, 32, 0] ls st h)) ∧
  (∀ (ls : zL) (st : zS) (h : zH), zx 140 56 ls st h = zgo 140 (zpure (.aload_n 0) 57 0 [] ls st h)) ∧
  (∀ (ls : zL) (st : zS) (h : zH), zx 140 57 ls st h = zgo 140 (zpure (.getfield 84) 60 0 [6, 32] ls st h)) ∧
  (∀ (ls : zL) (st : zS) (h : zH), zx 140 60 ls st h = zgo 140 (zpure (.ifCond .ne 7) 63 67 [] ls st h)) ∧
  (∀ (ls : zL) (st : zS) (h : zH), zx 140 63 ls st h = zgo 140 (zpure (.iconst 1) 64 0 [] ls st h)) ∧
  (∀ (ls : zL) (st : zS) (h : zH), zx 140 64 ls st h = zgo 140 (zpure (.goto 4) 67 68 [] ls st h)) ∧
  (∀ (ls : zL) (st : zS) (h : zH), zx 140 67 ls st h = zgo 140 (zpure (.iconst 0) 68 0 [] ls st h)) ∧
  (∀ (ls : zL) (st : zS) (h : zH), zx 140 68 ls st h = zret 1 st h) :=
  ⟨zx_0 rfl, zx_0 rfl, zx_0 rfl, zx_2c rfl, zx_0 rfl, zx_0 rfl, zx_0 rfl, zx_0 rfl, zx_0 rfl, zx_0 rfl, zx_0 rfl, zx_0 rfl, zx_0 rfl, zx_2c rfl, zx_0 rfl, zx_0 rfl, zx_0 rfl, zx_0 rfl, zx_0 rfl, zx_0 rfl, zx_0 rfl, zx_0 rfl, zx_0 rfl, zx_0 rfl, zx_0 rfl, zx_0 rfl, zx_0 rfl, zx_0 rfl, zx_0 rfl, zx_0 rfl, zx_0 rfl, zx_0 rfl, zx_0 rfl, zx_0 rfl, zx_0 rfl, zx_0 rfl, zx_1 rfl⟩
/-- X6_startOf -/
theorem z141 :
  (∀ (ls : zL) (st : zS) (h : zH), zx 141 0 ls st h = zgo 141 (zpure (.aload_n 0) 1 0 [] ls st h)) ∧
  (∀ (ls : zL) (st : zS) (h : zH), zx 141 1 ls st h = zgo 141 (zpure (.iload_n 1) 2 0 [] ls st h)) ∧
  (∀ (ls : zL) (st : zS) (h : zH), zx 141 2 ls st h = zca 141 2 5 ls 140 2 7 (ztake 2 st) h) ∧
  (∀ (ls : zL) (st : zS) (h : zH), zx 141 5 ls st h = zgo 141 (zpure (.ifCond .eq 17) 8 22 [] ls st h)) ∧
  (∀ (ls : zL) (st : zS) (h : zH), zx 141 8 ls st h = zgo 141 (zpure (.aload_n 0) 9 0 [] ls st h)) ∧
  (∀ (ls : zL) (st : zS) (h : zH), zx 141 9 ls st h = zgo 141 (zpure (.getfield 57) 12 0 [6, 18] ls st h)) ∧
  (∀ (ls : zL) (st : zS) (h : zH), zx 141 12 ls st h = zgo 141 (zpure (.aload_n 0) 13 0 [] ls st h)) ∧
  (∀ (ls : zL) (st : zS) (h : zH), zx 141 13 ls st h = zgo 141 (zpure (.getfield 75) 16 0 [6, 25] ls st h)) ∧
  (∀ (ls : zL) (st : zS) (h : zH), zx 141 16 ls st h = zgo 141 (zpure (.iload_n 1) 17 0 [] ls st h)) ∧
  (∀ (ls : zL) (st : zS) (h : zH), zx 141 17 ls st h = zgo 141 (zpure .iaload 18 0 [] ls st h)) ∧
  (∀ (ls : zL) (st : zS) (h : zH), zx 141 18 ls st h = zgo 141 (zpure .iaload 19 0 [] ls st h)) ∧
  (∀ (ls : zL) (st : zS) (h : zH), zx 141 19 ls st h = zgo 141 (zpure (.goto 4) 22 23 [] ls st h)) ∧
  (∀ (ls : zL) (st : zS) (h : zH), zx 141 22 ls st h = zgo 141 (zpure (.iconst 0) 23 0 [] ls st h)) ∧
  (∀ (ls : zL) (st : zS) (h : zH), zx 141 23 ls st h = zret 0 st h) :=
  ⟨zx_0 rfl, zx_0 rfl, zx_2c rfl, zx_0 rfl, zx_0 rfl, zx_0 rfl, zx_0 rfl, zx_0 rfl, zx_0 rfl, zx_0 rfl, zx_0 rfl, zx_0 rfl, zx_0 rfl, zx_1 rfl⟩
/-- X6_endOf -/
theorem z142 :
  (∀ (ls : zL) (st : zS) (h : zH), zx 142 0 ls st h = zgo 142 (zpure (.aload_n 0) 1 0 [] ls st h)) ∧
  (∀ (ls : zL) (st : zS) (h : zH), zx 142 1 ls st h = zgo 142 (zpure (.iload_n 1) 2 0 [] ls st h)) ∧
  (∀ (ls : zL) (st : zS) (h : zH), zx 142 2 ls st h = zca 142 2 5 ls 140 2 7 (ztake 2 st) h) ∧
  (∀ (ls : zL) (st : zS) (h : zH), zx 142 5 ls st h = zgo 142 (zpure (.ifCond .eq 17) 8 22 [] ls st h)) ∧
  (∀ (ls : zL) (st : zS) (h : zH), zx 142 8 ls st h = zgo 142 (zpure (.aload_n 0) 9 0 [] ls st h)) ∧
  (∀ (ls : zL) (st : zS) (h : zH), zx 142 9 ls st h = zgo 142 (zpure (.getfield 60) 12 0 [6, 19] ls st h)) ∧
  (∀ (ls : zL) (st : zS) (h : zH), zx 142 12 ls st h = zgo 142 (zpure (.aload_n 0) 13 0 [] ls st h)) ∧
  (∀ (ls : zL) (st : zS) (h : zH), zx 142 13 ls st h = zgo 142 (zpure (.getfield 75) 16 0 [6, 25] ls st h)) ∧
  (∀ (ls : zL) (st : zS) (h : zH), zx 142 16 ls st h = zgo 142 (zpure (.iload_n 1) 17 0 [] ls st h)) ∧
  (∀ (ls : zL) (st : zS) (h : zH), zx 142 17 ls st h = zgo 142 (zpure .iaload 18 0 [] ls st h)) ∧
  (∀ (ls : zL) (st : zS) (h : zH), zx 142 18 ls st h = zgo 142 (zpure .iaload 19 0 [] ls st h)) ∧
  (∀ (ls : zL) (st : zS) (h : zH), zx 142 19 ls st h = zgo 142 (zpure (.goto 4) 22 23 [] ls st h)) ∧
  (∀ (ls : zL) (st : zS) (h : zH), zx 142 22 ls st h = zgo 142 (zpure (.iconst 0) 23 0 [] ls st h)) ∧
  (∀ (ls : zL) (st : zS) (h : zH), zx 142 23 ls st h = zret 0 st h) :=
  ⟨zx_0 rfl, zx_0 rfl, zx_2c rfl, zx_0 rfl, zx_0 rfl, zx_0 rfl, zx_0 rfl, zx_0 rfl, zx_0 rfl, zx_0 rfl, zx_0 rfl, zx_0 rfl, zx_0 rfl, zx_1 rfl⟩
/-- X6_spans -/
theorem z143 :
  (∀ (ls : zL) (st : zS) (h : zH), zx 143 0 ls st h = zgo 143 (zpure (.aload_n 0) 1 0 [] ls st h)) ∧
  (∀ (ls : zL) (st : zS) (h : zH), zx 143 1 ls st h = zgo 143 (zpure (.iconst 0) 2 0 [] ls st h)) ∧
  (∀ (ls : zL) (st : zS) (h : zH), zx 143 2 ls st h = zgo 143 (zpure (.putfield 84) 5 0 [6, 32, 0] ls st h)) ∧
  (∀ (ls : zL) (st : zS) (h : zH), zx 143 5 ls st h = zgo 143 (zpure (.aload_n 0) 6 0 [] ls st h)) ∧
  (∀ (ls : zL) (st : zS) (h : zH), zx 143 6 ls st h = zca 143 6 9 ls 138 3 7 (ztake 1 st) h) ∧
  (∀ (ls : zL) (st : zS) (h : zH), zx 143 9 ls st h = zgo 143 (zpure (.aload_n 0) 10 0 [] ls st h)) ∧
  (∀ (ls : zL) (st : zS) (h : zH), zx 143 10 ls st h = zgo 143 (zpure (.getfield 171) 13 0 [6, 21] ls st h)) ∧
  (∀ (ls : zL) (st : zS) (h : zH), zx 143 13 ls st h = zret 0 st h) :=
  ⟨zx_0 rfl, zx_0 rfl, zx_0 rfl, zx_0 rfl, zx_2c rfl, zx_0 rfl, zx_0 rfl, zx_1 rfl⟩
/-- X6_isSpan -/
theorem z144 :
  (∀ (ls : zL) (st : zS) (h : zH), zx 144 0 ls st h = zgo 144 (zpure (.aload_n 0) 1 0 [] ls st h)) ∧
  (∀ (ls : zL) (st : zS) (h : zH), zx 144 1 ls st h = zca 144 1 4 ls 138 3 7 (ztake 1 st) h) ∧
  (∀ (ls : zL) (st : zS) (h : zH), zx 144 4 ls st h = zgo 144 (zpure (.aload_n 0) 5 0 [] ls st h)) ∧
  (∀ (ls : zL) (st : zS) (h : zH), zx 144 5 ls st h = zgo 144 (zpure (.iload_n 1) 6 0 [] ls st h)) ∧
  (∀ (ls : zL) (st : zS) (h : zH), zx 144 6 ls st h = zgo 144 (zpure (.iconst 0) 7 0 [] ls st h)) ∧
  (∀ (ls : zL) (st : zS) (h : zH), zx 144 7 ls st h = zgo 144 (zpure (.aload_n 0) 8 0 [] ls st h)) ∧
  (∀ (ls : zL) (st : zS) (h : zH), zx 144 8 ls st h = zgo 144 (zpure (.getfield 171) 11 0 [6, 21] ls st h)) ∧
  (∀ (ls : zL) (st : zS) (h : zH), zx 144 11 ls st h = zgo 144 (zpure (.iconst 1) 12 0 [] ls st h)) ∧
  (∀ (ls : zL) (st : zS) (h : zH), zx 144 12 ls st h = zgo 144 (zpure .isub 13 0 [] ls st h)) ∧
  (∀ (ls : zL) (st : zS) (h : zH), zx 144 13 ls st h = zca 144 13 16 ls 105 3 0 (ztake 3 st) h) ∧
  (∀ (ls : zL) (st : zS) (h : zH), zx 144 16 ls st h = zgo 144 (zpure (.ifCond .eq 7) 19 23 [] ls st h)) ∧
  (∀ (ls : zL) (st : zS) (h : zH), zx 144 19 ls st h = zgo 144 (zpure (.iconst 0) 20 0 [] ls st h)) ∧
  (∀ (ls : zL) (st : zS) (h : zH), zx 144 20 ls st h = zgo 144 (zpure (.goto 4) 23 24 [] ls st h)) ∧
  (∀ (ls : zL) (st : zS) (h : zH), zx 144 23 ls st h = zgo 144 (zpure (.iconst 1) 24 0 [] ls st h)) ∧
  (∀ (ls : zL) (st : zS) (h : zH), zx 144 24 ls st h = zgo 144 (zpure (.putfield 84) 27 0 [6, 32, 0] ls st h)) ∧
  (∀ (ls : zL) (st : zS) (h : zH), zx 144 27 ls st h = zgo 144 (zpure (.aload_n 0) 28 0 [] ls st h)) ∧
  (∀ (ls : zL) (st : zS) (h : zH), zx 144 28 ls st h = zgo 144 (zpure (.getfield 84) 31 0 [6, 32] ls st h)) ∧
  (∀ (ls : zL) (st : zS) (h : zH), zx 144 31 ls st h = zgo 144 (zpure (.ifCond .ne 7) 34 38 [] ls st h)) ∧
  (∀ (ls : zL) (st : zS) (h : zH), zx 144 34 ls st h = zgo 144 (zpure (.iconst 1) 35 0 [] ls st h)) ∧
  (∀ (ls : zL) (st : zS) (h : zH), zx 144 35 ls st h = zgo 144 (zpure (.goto 4) 38 39 [] ls st h)) ∧
  (∀ (ls : zL) (st : zS) (h : zH), zx 144 38 ls st h = zgo 144 (zpure (.iconst 0) 39 0 [] ls st h)) ∧
  (∀ (ls : zL) (st : zS) (h : zH), zx 144 39 ls st h = zret 1 st h) :=
  ⟨zx_0 rfl, zx_2c rfl, zx_0 rfl, zx_0 rfl, zx_0 rfl, zx_0 rfl, zx_0 rfl, zx_0 rfl, zx_0 rfl, zx_2c rfl, zx_0 rfl, zx_0 rfl, zx_0 rfl, zx_0 rfl, zx_0 rfl, zx_0 rfl, zx_0 rfl, zx_0 rfl, zx_0 rfl, zx_0 rfl, zx_0 rfl, zx_1 rfl⟩
/-- X6_spanClip -/
theorem z145 :
  (∀ (ls : zL) (st : zS) (h : zH), zx 145 0 ls st h = zgo 145 (zpure (.aload_n 0) 1 0 [] ls st h)) ∧
  (∀ (ls : zL) (st : zS) (h : zH), zx 145 1 ls st h = zgo 145 (zpure (.iload_n 1) 2 0 [] ls st h)) ∧
  (∀ (ls : zL) (st : zS) (h : zH), zx 145 2 ls st h = zca 145 2 5 ls 144 2 7 (ztake 2 st) h) ∧
  (∀ (ls : zL) (st : zS) (h : zH), zx 145 5 ls st h = zgo 145 (zpure (.ifCond .eq 12) 8 17 [] ls st h)) ∧
  (∀ (ls : zL) (st : zS) (h : zH), zx 145 8 ls st h = zgo 145 (zpure (.aload_n 0) 9 0 [] ls st h)) ∧
  (∀ (ls : zL) (st : zS) (h : zH), zx 145 9 ls st h = zgo 145 (zpure (.getfield 54) 12 0 [6, 17] ls st h)) ∧
  (∀ (ls : zL) (st : zS) (h : zH), zx 145 12 ls st h = zgo 145 (zpure (.iload_n 1) 13 0 [] ls st h)) ∧
  (∀ (ls : zL) (st : zS) (h : zH), zx 145 13 ls st h = zgo 145 (zpure .iaload 14 0 [] ls st h)) ∧
  (∀ (ls : zL) (st : zS) (h : zH), zx 145 14 ls st h = zgo 145 (zpure (.goto 4) 17 18 [] ls st h)) ∧
  (∀ (ls : zL) (st : zS) (h : zH), zx 145 17 ls st h = zgo 145 (zpure (.iconst 0) 18 0 [] ls st h)) ∧
  (∀ (ls : zL) (st : zS) (h : zH), zx 145 18 ls st h = zret 0 st h) :=
  ⟨zx_0 rfl, zx_0 rfl, zx_2c rfl, zx_0 rfl, zx_0 rfl, zx_0 rfl, zx_0 rfl, zx_0 rfl, zx_0 rfl, zx_0 rfl, zx_1 rfl⟩
/-- X6_spanStart -/
theorem z146 :
  (∀ (ls : zL) (st : zS) (h : zH), zx 146 0 ls st h = zgo 146 (zpure (.aload_n 0) 1 0 [] ls st h)) ∧
  (∀ (ls : zL) (st : zS) (h : zH), zx 146 1 ls st h = zgo 146 (zpure (.iload_n 1) 2 0 [] ls st h)) ∧
  (∀ (ls : zL) (st : zS) (h : zH), zx 146 2 ls st h = zca 146 2 5 ls 144 2 7 (ztake 2 st) h) ∧
  (∀ (ls : zL) (st : zS) (h : zH), zx 146 5 ls st h = zgo 146 (zpure (.ifCond .eq 12) 8 17 [] ls st h)) ∧
  (∀ (ls : zL) (st : zS) (h : zH), zx 146 8 ls st h = zgo 146 (zpure (.aload_n 0) 9 0 [] ls st h)) ∧
  (∀ (ls : zL) (st : zS) (h : zH), zx 146 9 ls st h = zgo 146 (zpure (.getfield 57) 12 0 [6, 18] ls st h)) ∧
  (∀ (ls : zL) (st : zS) (h : zH), zx 146 12 ls st h = zgo 146 (zpure (.iload_n 1) 13 0 [] ls st h)) ∧
  (∀ (ls : zL) (st : zS) (h : zH), zx 146 13 ls st h = zgo 146 (zpure .iaload 14 0 [] ls st h)) ∧
  (∀ (ls : zL) (st : zS) (h : zH), zx 146 14 ls st h = zgo 146 (zpure (.goto 4) 17 18 [] ls st h)) ∧
  (∀ (ls : zL) (st : zS) (h : zH), zx 146 17 ls st h = zgo 146 (zpure (.iconst 0) 18 0 [] ls st h)) ∧
  (∀ (ls : zL) (st : zS) (h : zH), zx 146 18 ls st h = zret 0 st h) :=
  ⟨zx_0 rfl, zx_0 rfl, zx_2c rfl, zx_0 rfl, zx_0 rfl, zx_0 rfl, zx_0 rfl, zx_0 rfl, zx_0 rfl, zx_0 rfl, zx_1 rfl⟩
/-- X6_spanLength -/
theorem z147 :
  (∀ (ls : zL) (st : zS) (h : zH), zx 147 0 ls st h = zgo 147 (zpure (.aload_n 0) 1 0 [] ls st h)) ∧
  (∀ (ls : zL) (st : zS) (h : zH), zx 147 1 ls st h = zgo 147 (zpure (.iload_n 1) 2 0 [] ls st h)) ∧
  (∀ (ls : zL) (st : zS) (h : zH), zx 147 2 ls st h = zca 147 2 5 ls 144 2 7 (ztake 2 st) h) ∧
  (∀ (ls : zL) (st : zS) (h : zH), zx 147 5 ls st h = zgo 147 (zpure (.ifCond .eq 19) 8 24 [] ls st h)) ∧
  (∀ (ls : zL) (st : zS) (h : zH), zx 147 8 ls st h = zgo 147 (zpure (.aload_n 0) 9 0 [] ls st h)) ∧
  (∀ (ls : zL) (st : zS) (h : zH), zx 147 9 ls st h = zgo 147 (zpure (.getfield 60) 12 0 [6, 19] ls st h)) ∧
  (∀ (ls : zL) (st : zS) (h : zH), zx 147 12 ls st h = zgo 147 (zpure (.iload_n 1) 13 0 [] ls st h)) ∧
  (∀ (ls : zL) (st : zS) (h : zH), zx 147 13 ls st h = zgo 147 (zpure .iaload 14 0 [] ls st h)) ∧
  (∀ (ls : zL) (st : zS) (h : zH), zx 147 14 ls st h = zgo 147 (zpure (.aload_n 0) 15 0 [] ls st h)) ∧
  (∀ (ls : zL) (st : zS) (h : zH), zx 147 15 ls st h = zgo 147 (zpure (.getfield 57) 18 0 [6, 18] ls st h)) ∧
  (∀ (ls : zL) (st : zS) (h : zH), zx 147 18 ls st h = zgo 147 (zpure (.iload_n 1) 19 0 [] ls st h)) ∧
  (∀ (ls : zL) (st : zS) (h : zH), zx 147 19 ls st h = zgo 147 (zpure .iaload 20 0 [] ls st h)) ∧
  (∀ (ls : zL) (st : zS) (h : zH), zx 147 20 ls st h = zgo 147 (zpure .isub 21 0 [] ls st h)) ∧
  (∀ (ls : zL) (st : zS) (h : zH), zx 147 21 ls st h = zgo 147 (zpure (.goto 4) 24 25 [] ls st h)) ∧
  (∀ (ls : zL) (st : zS) (h : zH), zx 147 24 ls st h = zgo 147 (zpure (.iconst 0) 25 0 [] ls st h)) ∧
  (∀ (ls : zL) (st : zS) (h : zH), zx 147 25 ls st h = zret 0 st h) :=
  ⟨zx_0 rfl, zx_0 rfl, zx_2c rfl, zx_0 rfl, zx_0 rfl, zx_0 rfl, zx_0 rfl, zx_0 rfl, zx_0 rfl, zx_0 rfl, zx_0 rfl, zx_0 rfl, zx_0 rfl, zx_0 rfl, zx_0 rfl, zx_1 rfl⟩
theorem z148_2 : ∀ (ls : zL) (st : zS) (h : zH), zx 148 2 ls st h = zgo 148 (zpure (.aload_n 0) 3 0 [] ls st h) := zx_0 rfl
/-- X6_clipAt -/
theorem z148 :
  (∀ (ls : zL) (st : zS) (h : zH), zx 148 0 ls st h = zgo 148 (zpure (.iconst 0) 1 0 [] ls st h)) ∧
  (∀ (ls : zL) (st : zS) (h : zH), zx 148 1 ls st h = zgo 148 (zpure (.istore_n 2) 2 0 [] ls st h)) ∧
  (∀ (ls : zL) (st : zS) (h : zH), zx 148 3 ls st h = zgo 148 (zpure (.getfield 60) 6 0 [6, 19] ls st h)) ∧
  (∀ (ls : zL) (st : zS) (h : zH), zx 148 6 ls st h = zgo 148 (zpure (.iload_n 2) 7 0 [] ls st h)) ∧
  (∀ (ls : zL) (st : zS) (h : zH), zx 148 7 ls st h = zgo 148 (zpure .iaload 8 0 [] ls st h)) ∧
  (∀ (ls : zL) (st : zS) (h : zH), zx 148 8 ls st h = zgo 148 (zpure (.iload_n 1) 9 0 [] ls st h)) ∧
  (∀ (ls : zL) (st : zS) (h : zH), zx 148 9 ls st h = zgo 148 (zpure (.if_icmp .gt 9) 12 18 [] ls st h)) ∧
  (∀ (ls : zL) (st : zS) (h : zH), zx 148 12 ls st h = zgo 148 (zpure (.iinc 2 1) 15 0 [] ls st h)) ∧
  (∀ (ls : zL) (st : zS) (h : zH), zx 148 15 ls st h = zgo 148 (zpure (.goto (-13)) 18 2 [] ls st h)) ∧
  (∀ (ls : zL) (st : zS) (h : zH), zx 148 18 ls st h = zgo 148 (zpure (.aload_n 0) 19 0 [] ls st h)) ∧
  (∀ (ls : zL) (st : zS) (h : zH), zx 148 19 ls st h = zgo 148 (zpure (.getfield 54) 22 0 [6, 17] ls st h)) ∧
  (∀ (ls : zL) (st : zS) (h : zH), zx 148 22 ls st h = zgo 148 (zpure (.iload_n 2) 23 0 [] ls st h)) ∧
  (∀ (ls : zL) (st : zS) (h : zH), zx 148 23 ls st h = zgo 148 (zpure .iaload 24 0 [] ls st h)) ∧
  (∀ (ls : zL) (st : zS) (h : zH), zx 148 24 ls st h = zret 0 st h) :=
  ⟨zx_0 rfl, zx_0 rfl, zx_0 rfl, zx_0 rfl, zx_0 rfl, zx_0 rfl, zx_0 rfl, zx_0 rfl, zx_0 rfl, zx_0 rfl, zx_0 rfl, zx_0 rfl, zx_0 rfl, zx_1 rfl⟩
/-- X6_airAt -/
theorem z149 :
  (∀ (ls : zL) (st : zS) (h : zH), zx 149 0 ls st h = zgo 149 (zpure (.aload_n 0) 1 0 [] ls st h)) ∧
  (∀ (ls : zL) (st : zS) (h : zH), zx 149 1 ls st h = zgo 149 (zpure (.iload_n 1) 2 0 [] ls st h)) ∧
  (∀ (ls : zL) (st : zS) (h : zH), zx 149 2 ls st h = zgo 149 (zpure (.iconst 0) 3 0 [] ls st h)) ∧
  (∀ (ls : zL) (st : zS) (h : zH), zx 149 3 ls st h = zgo 149 (zpure (.sipush 3599) 6 0 [] ls st h)) ∧
  (∀ (ls : zL) (st : zS) (h : zH), zx 149 6 ls st h = zca 149 6 9 ls 105 3 0 (ztake 3 st) h) ∧
  (∀ (ls : zL) (st : zS) (h : zH), zx 149 9 ls st h = zgo 149 (zpure (.ifCond .eq 7) 12 16 [] ls st h)) ∧
  (∀ (ls : zL) (st : zS) (h : zH), zx 149 12 ls st h = zgo 149 (zpure (.iconst 0) 13 0 [] ls st h)) ∧
  (∀ (ls : zL) (st : zS) (h : zH), zx 149 13 ls st h = zgo 149 (zpure (.goto 4) 16 17 [] ls st h)) ∧
  (∀ (ls : zL) (st : zS) (h : zH), zx 149 16 ls st h = zgo 149 (zpure (.iconst 1) 17 0 [] ls st h)) ∧
  (∀ (ls : zL) (st : zS) (h : zH), zx 149 17 ls st h = zgo 149 (zpure (.putfield 84) 20 0 [6, 32, 0] ls st h)) ∧
  (∀ (ls : zL) (st : zS) (h : zH), zx 149 20 ls st h = zgo 149 (zpure (.aload_n 0) 21 0 [] ls st h)) ∧
  (∀ (ls : zL) (st : zS) (h : zH), zx 149 21 ls st h = zgo 149 (zpure (.getfield 84) 24 0 [6, 32] ls st h)) ∧
  (∀ (ls : zL) (st : zS) (h : zH), zx 149 24 ls st h = zgo 149 (zpure (.ifCond .le 5) 27 29 [] ls st h)) ∧
  (∀ (ls : zL) (st : zS) (h : zH), zx 149 27 ls st h = zgo 149 (zpure (.iconst 0) 28 0 [] ls st h)) ∧
  (∀ (ls : zL) (st : zS) (h : zH), zx 149 28 ls st h = zret 0 st h) ∧
  (∀ (ls : zL) (st : zS) (h : zH), zx 149 29 ls st h = zgo 149 (zpure (.aload_n 0) 30 0 [] ls st h)) ∧
  (∀ (ls : zL) (st : zS) (h : zH), zx 149 30 ls st h = zca 149 30 33 ls 138 3 7 (ztake 1 st) h) ∧
  (∀ (ls : zL) (st : zS) (h : zH), zx 149 33 ls st h = zgo 149 (zpure (.aload_n 0) 34 0 [] ls st h)) ∧
  (∀ (ls : zL) (st : zS) (h : zH), zx 149 34 ls st h = zgo 149 (zpure (.iload_n 1) 35 0 [] ls st h)) ∧
  (∀ (ls : zL) (st : zS) (h : zH), zx 149 35 ls st h = zca 149 35 38 ls 148 3 7 (ztake 2 st) h) ∧
  (∀ (ls : zL) (st : zS) (h : zH), zx 149 38 ls st h = zret 0 st h) :=
  ⟨zx_0 rfl, zx_0 rfl, zx_0 rfl, zx_0 rfl, zx_2c rfl, zx_0 rfl, zx_0 rfl, zx_0 rfl, zx_0 rfl, zx_0 rfl, zx_0 rfl, zx_0 rfl, zx_0 rfl, zx_0 rfl, zx_1 rfl, zx_0 rfl, zx_2c rfl, zx_0 rfl, zx_0 rfl, zx_2c rfl, zx_1 rfl⟩
/-- X6_airBySeconds -/
theorem z150 :
  (∀ (ls : zL) (st : zS) (h : zH), zx 150 0 ls st h = zgo 150 (zpure (.aload_n 0) 1 0 [] ls st h)) ∧
  (∀ (ls : zL) (st : zS) (h : zH), zx 150 1 ls st h = zgo 150 (zpure (.iload_n 1) 2 0 [] ls st h)) ∧
  (∀ (ls : zL) (st : zS) (h : zH), zx 150 2 ls st h = zca 150 2 5 ls 149 2 7 (ztake 2 st) h) ∧
  (∀ (ls : zL) (st : zS) (h : zH), zx 150 5 ls st h = zret 0 st h) :=
  ⟨zx_0 rfl, zx_0 rfl, zx_2c rfl, zx_1 rfl⟩
theorem z151_13 : ∀ (ls : zL) (st : zS) (h : zH), zx 151 13 ls st h = zgo 151 (zpure (.iload_n 2) 14 0 [] ls st h) := zx_0 rfl
/-- X6_slate -/
theorem z151 :
  (∀ (ls : zL) (st : zS) (h : zH), zx 151 0 ls st h = zgo 151 (zpure (.aload_n 0) 1 0 [] ls st h)) ∧
  (∀ (ls : zL) (st : zS) (h : zH), zx 151 1 ls st h = zgo 151 (zpure (.iconst 0) 2 0 [] ls st h)) ∧
  (∀ (ls : zL) (st : zS) (h : zH), zx 151 2 ls st h = zgo 151 (zpure (.putfield 84) 5 0 [6, 32, 0] ls st h)) ∧
  (∀ (ls : zL) (st : zS) (h : zH), zx 151 5 ls st h = zgo 151 (zpure (.aload_n 0) 6 0 [] ls st h)) ∧
  (∀ (ls : zL) (st : zS) (h : zH), zx 151 6 ls st h = zca 151 6 9 ls 138 3 7 (ztake 1 st) h) ∧
  (∀ (ls : zL) (st : zS) (h : zH), zx 151 9 ls st h = zgo 151 (zpure (.iconst 0) 10 0 [] ls st h)) ∧
  (∀ (ls : zL) (st : zS) (h : zH), zx 151 10 ls st h = zgo 151 (zpure (.istore_n 1) 11 0 [] ls st h)) ∧
  (∀ (ls : zL) (st : zS) (h : zH), zx 151 11 ls st h = zgo 151 (zpure (.iconst 0) 12 0 [] ls st h)) ∧
  (∀ (ls : zL) (st : zS) (h : zH), zx 151 12 ls st h = zgo 151 (zpure (.istore_n 2) 13 0 [] ls st h)) ∧
  (∀ (ls : zL) (st : zS) (h : zH), zx 151 14 ls st h = zgo 151 (zpure (.aload_n 0) 15 0 [] ls st h)) ∧
  (∀ (ls : zL) (st : zS) (h : zH), zx 151 15 ls st h = zgo 151 (zpure (.getfield 171) 18 0 [6, 21] ls st h)) ∧
  (∀ (ls : zL) (st : zS) (h : zH), zx 151 18 ls st h = zgo 151 (zpure (.if_icmp .ge 39) 21 57 [] ls st h)) ∧
  (∀ (ls : zL) (st : zS) (h : zH), zx 151 21 ls st h = zgo 151 (zpure (.iload_n 1) 22 0 [] ls st h)) ∧
  (∀ (ls : zL) (st : zS) (h : zH), zx 151 22 ls st h = zgo 151 (zpure (.aload_n 0) 23 0 [] ls st h)) ∧
  (∀ (ls : zL) (st : zS) (h : zH), zx 151 23 ls st h = zgo 151 (zpure (.getfield 54) 26 0 [6, 17] ls st h)) ∧
  (∀ (ls : zL) (st : zS) (h : zH), zx 151 26 ls st h = zgo 151 (zpure (.iload_n 2) 27 0 [] ls st h)) ∧
  (∀ (ls : zL) (st : zS) (h : zH), zx 151 27 ls st h = zgo 151 (zpure .iaload 28 0 [] ls st h)) ∧
  (∀ (ls : zL) (st : zS) (h : zH), zx 151 28 ls st h = zgo 151 (zpure (.iconst (-1)) 29 0 [] ls st h)) ∧
  (∀ (ls : zL) (st : zS) (h : zH), zx 151 29 ls st h = zgo 151 (zpure (.if_icmp .ne 19) 32 48 [] ls st h)) ∧
  (∀ (ls : zL) (st : zS) (h : zH), zx 151 32 ls st h = zgo 151 (zpure (.aload_n 0) 33 0 [] ls st h)) ∧
  (∀ (ls : zL) (st : zS) (h : zH), zx 151 33 ls st h = zgo 151 (zpure (.getfield 60) 36 0 [6, 19] ls st h)) ∧
  (∀ (ls : zL) (st : zS) (h : zH), zx 151 36 ls st h = zgo 151 (zpure (.iload_n 2) 37 0 [] ls st h)) ∧
  (∀ (ls : zL) (st : zS) (h : zH), zx 151 37 ls st h = zgo 151 (zpure .iaload 38 0 [] ls st h)) ∧
  (∀ (ls : zL) (st : zS) (h : zH), zx 151 38 ls st h = zgo 151 (zpure (.aload_n 0) 39 0 [] ls st h)) ∧
  (∀ (ls : zL) (st : zS) (h : zH), zx 151 39 ls st h = zgo 151 (zpure (.getfield 57) 42 0 [6, 18] ls st h)) ∧
  (∀ (ls : zL) (st : zS) (h : zH), zx 151 42 ls st h = zgo 151 (zpure (.iload_n 2) 43 0 [] ls st h)) ∧
  (∀ (ls : zL) (st : zS) (h : zH), zx 151 43 ls st h = zgo 151 (zpure .iaload 44 0 [] ls st h)) ∧
  (∀ (ls : zL) (st : zS) (h : zH), zx 151 44 ls st h = zgo 151 (zpure .isub 45 0 [] ls st h)) ∧
  (∀ (ls : zL) (st : zS) (h : zH), zx 151 45 ls st h = zgo 151 (zpure (.goto 4) 48 49 [] ls st h)) ∧
  (∀ (ls : zL) (st : zS) (h : zH), zx 151 48 ls st h = zgo 151 (zpure (.iconst 0) 49 0 [] ls st h)) ∧
  (∀ (ls : zL) (st : zS) (h : zH), zx 151 49 ls st h = zgo 151 (zpure .iadd 50 0 [] ls st h)) ∧
  (∀ (ls : zL) (st : zS) (h : zH), zx 151 50 ls st h = zgo 151 (zpure (.istore_n 1) 51 0 [] ls st h)) ∧
  (∀ (ls : zL) (st : zS) (h : zH), zx 151 51 ls st h = zgo 151 (zpure (.iinc 2 1) 54 0 [] ls st h)) ∧
  (∀ (ls : zL) (st : zS) (h : zH), zx 151 54 ls st h = zgo 151 (zpure (.goto (-41)) 57 13 [] ls st h)) ∧
  (∀ (ls : zL) (st : zS) (h : zH), zx 151 57 ls st h = zgo 151 (zpure (.iload_n 1) 58 0 [] ls st h)) ∧
  (∀ (ls : zL) (st : zS) (h : zH), zx 151 58 ls st h = zret 0 st h) :=
  ⟨zx_0 rfl, zx_0 rfl, zx_0 rfl, zx_0 rfl, zx_2c rfl, zx_0 rfl, zx_0 rfl, zx_0 rfl, zx_0 rfl, zx_0 rfl, zx_0 rfl, zx_0 rfl, zx_0 rfl, zx_0 rfl, zx_0 rfl, zx_0 rfl, zx_0 rfl, zx_0 rfl, zx_0 rfl, zx_0 rfl, zx_0 rfl, zx_0 rfl, zx_0 rfl, zx_0 rfl, zx_0 rfl, zx_0 rfl, zx_0 rfl, zx_0 rfl, zx_0 rfl, zx_0 rfl, zx_0 rfl, zx_0 rfl, zx_0 rfl, zx_0 rfl, zx_0 rfl, zx_1 rfl⟩
/-- X6_shows -/
theorem z152 :
  (∀ (ls : zL) (st : zS) (h : zH), zx 152 0 ls st h = zgo 152 (zpure (.aload_n 0) 1 0 [] ls st h)) ∧
  (∀ (ls : zL) (st : zS) (h : zH), zx 152 1 ls st h = zgo 152 (zpure (.getfield 57) 4 0 [6, 18] ls st h)) ∧
  (∀ (ls : zL) (st : zS) (h : zH), zx 152 4 ls st h = zgo 152 (zpure (.aload_n 0) 5 0 [] ls st h)) ∧
  (∀ (ls : zL) (st : zS) (h : zH), zx 152 5 ls st h = zgo 152 (zpure (.getfield 75) 8 0 [6, 25] ls st h)) ∧
  (∀ (ls : zL) (st : zS) (h : zH), zx 152 8 ls st h = zgo 152 (zpure (.iload_n 1) 9 0 [] ls st h)) ∧
  (∀ (ls : zL) (st : zS) (h : zH), zx 152 9 ls st h = zgo 152 (zpure .iaload 10 0 [] ls st h)) ∧
  (∀ (ls : zL) (st : zS) (h : zH), zx 152 10 ls st h = zgo 152 (zpure .iaload 11 0 [] ls st h)) ∧
  (∀ (ls : zL) (st : zS) (h : zH), zx 152 11 ls st h = zgo 152 (zpure (.istore 4) 13 0 [] ls st h)) ∧
  (∀ (ls : zL) (st : zS) (h : zH), zx 152 13 ls st h = zgo 152 (zpure (.aload_n 0) 14 0 [] ls st h)) ∧
  (∀ (ls : zL) (st : zS) (h : zH), zx 152 14 ls st h = zgo 152 (zpure (.getfield 60) 17 0 [6, 19] ls st h)) ∧
  (∀ (ls : zL) (st : zS) (h : zH), zx 152 17 ls st h = zgo 152 (zpure (.aload_n 0) 18 0 [] ls st h)) ∧
  (∀ (ls : zL) (st : zS) (h : zH), zx 152 18 ls st h = zgo 152 (zpure (.getfield 75) 21 0 [6, 25] ls st h)) ∧
  (∀ (ls : zL) (st : zS) (h : zH), zx 152 21 ls st h = zgo 152 (zpure (.iload_n 1) 22 0 [] ls st h)) ∧
  (∀ (ls : zL) (st : zS) (h : zH), zx 152 22 ls st h = zgo 152 (zpure .iaload 23 0 [] ls st h)) ∧
  (∀ (ls : zL) (st : zS) (h : zH), zx 152 23 ls st h = zgo 152 (zpure .iaload 24 0 [] ls st h)) ∧
  (∀ (ls : zL) (st : zS) (h : zH), zx 152 24 ls st h = zgo 152 (zpure (.istore 5) 26 0 [] ls st h)) ∧
  (∀ (ls : zL) (st : zS) (h : zH), zx 152 26 ls st h = zgo 152 (zpure (.aload_n 0) 27 0 [] ls st h)) ∧
  (∀ (ls : zL) (st : zS) (h : zH), zx 152 27 ls st h = zgo 152 (zpure (.getfield 48) 30 0 [6, 13] ls st h)) ∧
  (∀ (ls : zL) (st : zS) (h : zH), zx 152 30 ls st h = zgo 152 (zpure (.iload_n 1) 31 0 [] ls st h)) ∧
  (∀ (ls : zL) (st : zS) (h : zH), zx 152 31 ls st h = zgo 152 (zpure .aaload 32 0 [] ls st h)) ∧
  (∀ (ls : zL) (st : zS) (h : zH), zx 152 32 ls st h = zgo 152 (zpure (.iconst 3) 33 0 [] ls st h)) ∧
  (∀ (ls : zL) (st : zS) (h : zH), zx 152 33 ls st h = zgo 152 (zpure (.iload_n 2) 34 0 [] ls st h)) ∧
  (∀ (ls : zL) (st : zS) (h : zH), zx 152 34 ls st h = zgo 152 (zpure .imul 35 0 [] ls st h)) ∧
  (∀ (ls : zL) (st : zS) (h : zH), zx 152 35 ls st h = zgo 152 (zpure .iaload 36 0 [] ls st h)) ∧
  (∀ (ls : zL) (st : zS) (h : zH), zx 152 36 ls st h = zgo 152 (zpure (.ifCond .ne 21) 39 57 [] ls st h)) ∧
  (∀ (ls : zL) (st : zS) (h : zH), zx 152 39 ls st h = zgo 152 (zpure (.iload 4) 41 0 [] ls st h)) ∧
  (∀ (ls : zL) (st : zS) (h : zH), zx 152 41 ls st h = zgo 152 (zpure (.aload_n 0) 42 0 [] ls st h)) ∧
  (∀ (ls : zL) (st : zS) (h : zH), zx 152 42 ls st h = zgo 152 (zpure (.getfield 48) 45 0 [6, 13] ls st h)) ∧
  (∀ (ls : zL) (st : zS) (h : zH), zx 152 45 ls st h = zgo 152 (zpure (.iload_n 1) 46 0 [] ls st h)) ∧
  (∀ (ls : zL) (st : zS) (h : zH), zx 152 46 ls st h = zgo 152 (zpure .aaload 47 0 [] ls st h)) ∧
  (∀ (ls : zL) (st : zS) (h : zH), zx 152 47 ls st h = zgo 152 (zpure (.iconst 3) 48 0 [] ls st h)) ∧
  (∀ (ls : zL) (st : zS) (h : zH), zx 152 48 ls st h = zgo 152 (zpure (.iload_n 2) 49 0 [] ls st h)) ∧
  (∀ (ls : zL) (st : zS) (h : zH), zx 152 49 ls st h = zgo 152 (zpure .imul 50 0 [] ls st h)) ∧
  (∀ (ls : zL) (st : zS) (h : zH), zx 152 50 ls st h = zgo 152 (zpure (.iconst 1) 51 0 [] ls st h)) ∧
  (∀ (ls : zL) (st : zS) (h : zH), zx 152 51 ls st h = zgo 152 (zpure .iadd 52 0 [] ls st h)) ∧
  (∀ (ls : zL) (st : zS) (h : zH), zx 152 52 ls st h = zgo 152 (zpure .iaload 53 0 [] ls st h)) ∧
  (∀ (ls : zL) (st : zS) (h : zH), zx 152 53 ls st h = zgo 152 (zpure .iadd 54 0 [] ls st h)) ∧
  (∀ (ls : zL) (st : zS) (h : zH), zx 152 54 ls st h = zgo 152 (zpure (.goto 18) 57 72 [] ls st h)) ∧
  (∀ (ls : zL) (st : zS) (h : zH), zx 152 57 ls st h = zgo 152 (zpure (.iload 5) 59 0 [] ls st h)) ∧
  (∀ (ls : zL) (st : zS) (h : zH), zx 152 59 ls st h = zgo 152 (zpure (.aload_n 0) 60 0 [] ls st h)) ∧
  (∀ (ls : zL) (st : zS) (h : zH), zx 152 60 ls st h = zgo 152 (zpure (.getfield 48) 63 0 [6, 13] ls st h)) ∧
  (∀ (ls : zL) (st : zS) (h : zH), zx 152 63 ls st h = zgo 152 (zpure (.iload_n 1) 64 0 [] ls st h)) ∧
  (∀ (ls : zL) (st : zS) (h : zH), zx 152 64 ls st h = zgo 152 (zpure .aaload 65 0 [] ls st h)) ∧
  (∀ (ls : zL) (st : zS) (h : zH), zx 152 65 ls st h = zgo 152 (zpure (.iconst 3) 66 0 [] ls st h)) ∧
  (∀ (ls : zL) (st : zS) (h : zH), zx 152 66 ls st h = zgo 152 (zpure (.iload_n 2) 67 0 [] ls st h)) ∧
  (∀ (ls : zL) (st : zS) (h : zH), zx 152 67 ls st h = zgo 152 (zpure .imul 68 0 [] ls st h)) ∧
  (∀ (ls : zL) (st : zS) (h : zH), zx 152 68 ls st h = zgo 152 (zpure (.iconst 1) 69 0 [] ls st h)) ∧
  (∀ (ls : zL) (st : zS) (h : zH), zx 152 69 ls st h = zgo 152 (zpure .iadd 70 0 [] ls st h)) ∧
  (∀ (ls : zL) (st : zS) (h : zH), zx 152 70 ls st h = zgo 152 (zpure .iaload 71 0 [] ls st h)) ∧
  (∀ (ls : zL) (st : zS) (h : zH), zx 152 71 ls st h = zgo 152 (zpure .isub 72 0 [] ls st h)) ∧
  (∀ (ls : zL) (st : zS) (h : zH), zx 152 72 ls st h = zgo 152 (zpure (.istore 6) 74 0 [] ls st h)) ∧
  (∀ (ls : zL) (st : zS) (h : zH), zx 152 74 ls st h = zgo 152 (zpure (.iload_n 3) 75 0 [] ls st h)) ∧
  (∀ (ls : zL) (st : zS) (h : zH), zx 152 75 ls st h = zgo 152 (zpure (.ifCond .eq 26) 78 101 [] ls st h)) ∧
  (∀ (ls : zL) (st : zS) (h : zH), zx 152 78 ls st h = zgo 152 (zpure (.iload 5) 80 0 [] ls st h)) ∧
  (∀ (ls : zL) (st : zS) (h : zH), zx 152 80 ls st h = zgo 152 (zpure (.iload 6) 82 0 [] ls st h)) ∧
  (∀ (ls : zL) (st : zS) (h : zH), zx 152 82 ls st h = zgo 152 (zpure (.aload_n 0) 83 0 [] ls st h)) ∧
  (∀ (ls : zL) (st : zS) (h : zH), zx 152 83 ls st h = zgo 152 (zpure (.getfield 48) 86 0 [6, 13] ls st h)) ∧
  (∀ (ls : zL) (st : zS) (h : zH), zx 152 86 ls st h = zgo 152 (zpure (.iload_n 1) 87 0 [] ls st h)) ∧
  (∀ (ls : zL) (st : zS) (h : zH), zx 152 87 ls st h = zgo 152 (zpure .aaload 88 0 [] ls st h)) ∧
  (∀ (ls : zL) (st : zS) (h : zH), zx 152 88 ls st h = zgo 152 (zpure (.iconst 3) 89 0 [] ls st h)) ∧
  (∀ (ls : zL) (st : zS) (h : zH), zx 152 89 ls st h = zgo 152 (zpure (.iload_n 2) 90 0 [] ls st h)) ∧
  (∀ (ls : zL) (st : zS) (h : zH), zx 152 90 ls st h = zgo 152 (zpure .imul 91 0 [] ls st h)) ∧
  (∀ (ls : zL) (st : zS) (h : zH), zx 152 91 ls st h = zgo 152 (zpure (.iconst 2) 92 0 [] ls st h)) ∧
  (∀ (ls : zL) (st : zS) (h : zH), zx 152 92 ls st h = zgo 152 (zpure .iadd 93 0 [] ls st h)) ∧
  (∀ (ls : zL) (st : zS) (h : zH), zx 152 93 ls st h = zgo 152 (zpure .iaload 94 0 [] ls st h)) ∧
  (∀ (ls : zL) (st : zS) (h : zH), zx 152 94 ls st h = zgo 152 (zpure .iadd 95 0 [] ls st h)) ∧
  (∀ (ls : zL) (st : zS) (h : zH), zx 152 95 ls st h = zgo 152 (zpure (.invokestatic 210) 98 0 [2] ls st h)) ∧
  (∀ (ls : zL) (st : zS) (h : zH), zx 152 98 ls st h = zgo 152 (zpure (.goto 10) 101 108 [] ls st h)) ∧
  (∀ (ls : zL) (st : zS) (h : zH), zx 152 101 ls st h = zgo 152 (zpure (.iload 4) 103 0 [] ls st h)) ∧
  (∀ (ls : zL) (st : zS) (h : zH), zx 152 103 ls st h = zgo 152 (zpure (.iload 6) 105 0 [] ls st h)) ∧
  (∀ (ls : zL) (st : zS) (h : zH), zx 152 105 ls st h = zgo 152 (zpure (.invokestatic 213) 108 0 [1] ls st h)) ∧
  (∀ (ls : zL) (st : zS) (h : zH), zx 152 108 ls st h = zret 0 st h) :=
  ⟨zx_0 rfl, zx_0 rfl, zx_0 rfl, zx_0 rfl, zx_0 rfl, zx_0 rfl, zx_0 rfl, zx_0 rfl, zx_0 rfl, zx_0 rfl, zx_0 rfl, zx_0 rfl, zx_0 rfl, zx_0 rfl, zx_0 rfl, zx_0 rfl, zx_0 rfl, zx_0 rfl, zx_0 rfl, zx_0 rfl, zx_0 rfl, zx_0 rfl, zx_0 rfl, zx_0 rfl, zx_0 rfl, zx_0 rfl, zx_0 rfl, zx_0 rfl, zx_0 rfl, zx_0 rfl, zx_0 rfl, zx_0 rfl, zx_0 rfl, zx_0 rfl, zx_0 rfl, zx_0 rfl, zx_0 rfl, zx_0 rfl, zx_0 rfl, zx_0 rfl, zx_0 rfl, zx_0 rfl, zx_0 rfl, zx_0 rfl, zx_0 rfl, zx_0 rfl, zx_0 rfl, zx_0 rfl, zx_0 rfl, zx_0 rfl, zx_0 rfl, zx_0 rfl, zx_0 rfl, zx_0 rfl, zx_0 rfl, zx_0 rfl, zx_0 rfl, zx_0 rfl, zx_0 rfl, zx_0 rfl, zx_0 rfl, zx_0 rfl, zx_0 rfl, zx_0 rfl, zx_0 rfl, zx_0 rfl, zx_0 rfl, zx_0 rfl, zx_0 rfl, zx_0 rfl, zx_0 rfl, zx_1 rfl⟩
theorem z153_37 : ∀ (ls : zL) (st : zS) (h : zH), zx 153 37 ls st h = zgo 153 (zpure (.iload_n 3) 38 0 [] ls st h) := zx_0 rfl
theorem z153_48 : ∀ (ls : zL) (st : zS) (h : zH), zx 153 48 ls st h = zgo 153 (zpure (.iload 4) 50 0 [] ls st h) := zx_0 rfl
/-- X6_showing -/
theorem z153 :
  (∀ (ls : zL) (st : zS) (h : zH), zx 153 0 ls st h = zgo 153 (zpure (.aload_n 0) 1 0 [] ls st h)) ∧
  (∀ (ls : zL) (st : zS) (h : zH), zx 153 1 ls st h = zgo 153 (zpure (.iload_n 1) 2 0 [] ls st h)) ∧
  (∀ (ls : zL) (st : zS) (h : zH), zx 153 2 ls st h = zgo 153 (zpure (.iconst 0) 3 0 [] ls st h)) ∧
  (∀ (ls : zL) (st : zS) (h : zH), zx 153 3 ls st h = zgo 153 (zpure (.sipush 3599) 6 0 [] ls st h)) ∧
  (∀ (ls : zL) (st : zS) (h : zH), zx 153 6 ls st h = zca 153 6 9 ls 105 3 0 (ztake 3 st) h) ∧
  (∀ (ls : zL) (st : zS) (h : zH), zx 153 9 ls st h = zgo 153 (zpure (.ifCond .eq 7) 12 16 [] ls st h)) ∧
  (∀ (ls : zL) (st : zS) (h : zH), zx 153 12 ls st h = zgo 153 (zpure (.iconst 0) 13 0 [] ls st h)) ∧
  (∀ (ls : zL) (st : zS) (h : zH), zx 153 13 ls st h = zgo 153 (zpure (.goto 4) 16 17 [] ls st h)) ∧
  (∀ (ls : zL) (st : zS) (h : zH), zx 153 16 ls st h = zgo 153 (zpure (.iconst 1) 17 0 [] ls st h)) ∧
  (∀ (ls : zL) (st : zS) (h : zH), zx 153 17 ls st h = zgo 153 (zpure (.putfield 84) 20 0 [6, 32, 0] ls st h)) ∧
  (∀ (ls : zL) (st : zS) (h : zH), zx 153 20 ls st h = zgo 153 (zpure (.aload_n 0) 21 0 [] ls st h)) ∧
  (∀ (ls : zL) (st : zS) (h : zH), zx 153 21 ls st h = zgo 153 (zpure (.getfield 84) 24 0 [6, 32] ls st h)) ∧
  (∀ (ls : zL) (st : zS) (h : zH), zx 153 24 ls st h = zgo 153 (zpure (.ifCond .le 5) 27 29 [] ls st h)) ∧
  (∀ (ls : zL) (st : zS) (h : zH), zx 153 27 ls st h = zgo 153 (zpure (.iconst 0) 28 0 [] ls st h)) ∧
  (∀ (ls : zL) (st : zS) (h : zH), zx 153 28 ls st h = zret 0 st h) ∧
  (∀ (ls : zL) (st : zS) (h : zH), zx 153 29 ls st h = zgo 153 (zpure (.aload_n 0) 30 0 [] ls st h)) ∧
  (∀ (ls : zL) (st : zS) (h : zH), zx 153 30 ls st h = zca 153 30 33 ls 138 3 7 (ztake 1 st) h) ∧
  (∀ (ls : zL) (st : zS) (h : zH), zx 153 33 ls st h = zgo 153 (zpure (.iconst 0) 34 0 [] ls st h)) ∧
  (∀ (ls : zL) (st : zS) (h : zH), zx 153 34 ls st h = zgo 153 (zpure (.istore_n 2) 35 0 [] ls st h)) ∧
  (∀ (ls : zL) (st : zS) (h : zH), zx 153 35 ls st h = zgo 153 (zpure (.iconst 0) 36 0 [] ls st h)) ∧
  (∀ (ls : zL) (st : zS) (h : zH), zx 153 36 ls st h = zgo 153 (zpure (.istore_n 3) 37 0 [] ls st h)) ∧
  (∀ (ls : zL) (st : zS) (h : zH), zx 153 38 ls st h = zgo 153 (zpure (.aload_n 0) 39 0 [] ls st h)) ∧
  (∀ (ls : zL) (st : zS) (h : zH), zx 153 39 ls st h = zgo 153 (zpure (.getfield 109) 42 0 [6, 15] ls st h)) ∧
  (∀ (ls : zL) (st : zS) (h : zH), zx 153 42 ls st h = zgo 153 (zpure (.if_icmp .ge 92) 45 134 [] ls st h)) ∧
  (∀ (ls : zL) (st : zS) (h : zH), zx 153 45 ls st h = zgo 153 (zpure (.iconst 0) 46 0 [] ls st h)) ∧
  (∀ (ls : zL) (st : zS) (h : zH), zx 153 46 ls st h = zgo 153 (zpure (.istore 4) 48 0 [] ls st h)) ∧
  (∀ (ls : zL) (st : zS) (h : zH), zx 153 50 ls st h = zgo 153 (zpure (.aload_n 0) 51 0 [] ls st h)) ∧
  (∀ (ls : zL) (st : zS) (h : zH), zx 153 51 ls st h = zgo 153 (zpure (.getfield 51) 54 0 [6, 14] ls st h)) ∧
  (∀ (ls : zL) (st : zS) (h : zH), zx 153 54 ls st h = zgo 153 (zpure (.iload_n 3) 55 0 [] ls st h)) ∧
  (∀ (ls : zL) (st : zS) (h : zH), zx 153 55 ls st h = zgo 153 (zpure .iaload 56 0 [] ls st h)) ∧
  (∀ (ls : zL) (st : zS) (h : zH), zx 153 56 ls st h = zgo 153 (zpure (.if_icmp .ge 72) 59 128 [] ls st h)) ∧
  (∀ (ls : zL) (st : zS) (h : zH), zx 153 59 ls st h = zgo 153 (zpure (.aload_n 0) 60 0 [] ls st h)) ∧
  (∀ (ls : zL) (st : zS) (h : zH), zx 153 60 ls st h = zgo 153 (zpure (.getfield 66) 63 0 [6, 22] ls st h)) ∧
  (∀ (ls : zL) (st : zS) (h : zH), zx 153 63 ls st h = zgo 153 (zpure (.iload_n 3) 64 0 [] ls st h)) ∧
  (∀ (ls : zL) (st : zS) (h : zH), zx 153 64 ls st h = zgo 153 (zpure .baload 65 0 [] ls st h)) ∧
  (∀ (ls : zL) (st : zS) (h : zH), zx 153 65 ls st h = zgo 153 (zpure (.ifCond .ne 41) 68 106 [] ls st h)) ∧
  (∀ (ls : zL) (st : zS) (h : zH), zx 153 68 ls st h = zgo 153 (zpure (.aload_n 0) 69 0 [] ls st h)) ∧
  (∀ (ls : zL) (st : zS) (h : zH), zx 153 69 ls st h = zgo 153 (zpure (.getfield 75) 72 0 [6, 25] ls st h)) ∧
  (∀ (ls : zL) (st : zS) (h : zH), zx 153 72 ls st h = zgo 153 (zpure (.iload_n 3) 73 0 [] ls st h)) ∧
  (∀ (ls : zL) (st : zS) (h : zH), zx 153 73 ls st h = zgo 153 (zpure .iaload 74 0 [] ls st h)) ∧
  (∀ (ls : zL) (st : zS) (h : zH), zx 153 74 ls st h = zgo 153 (zpure (.iconst (-1)) 75 0 [] ls st h)) ∧
  (∀ (ls : zL) (st : zS) (h : zH), zx 153 75 ls st h = zgo 153 (zpure (.if_icmp .eq 31) 78 106 [] ls st h)) ∧
  (∀ (ls : zL) (st : zS) (h : zH), zx 153 78 ls st h = zgo 153 (zpure (.iload_n 1) 79 0 [] ls st h)) ∧
  (∀ (ls : zL) (st : zS) (h : zH), zx 153 79 ls st h = zgo 153 (zpure (.aload_n 0) 80 0 [] ls st h)) ∧
  (∀ (ls : zL) (st : zS) (h : zH), zx 153 80 ls st h = zgo 153 (zpure (.iload_n 3) 81 0 [] ls st h)) ∧
  (∀ (ls : zL) (st : zS) (h : zH), zx 153 81 ls st h = zgo 153 (zpure (.iload 4) 83 0 [] ls st h)) ∧
  (∀ (ls : zL) (st : zS) (h : zH), zx 153 83 ls st h = zgo 153 (zpure (.iconst 0) 84 0 [] ls st h)) ∧
  (∀ (ls : zL) (st : zS) (h : zH), zx 153 84 ls st h = zca 153 84 87 ls 152 7 7 (ztake 4 st) h) ∧
  (∀ (ls : zL) (st : zS) (h : zH), zx 153 87 ls st h = zgo 153 (zpure (.if_icmp .lt 19) 90 106 [] ls st h)) ∧
  (∀ (ls : zL) (st : zS) (h : zH), zx 153 90 ls st h = zgo 153 (zpure (.iload_n 1) 91 0 [] ls st h)) ∧
  (∀ (ls : zL) (st : zS) (h : zH), zx 153 91 ls st h = zgo 153 (zpure (.aload_n 0) 92 0 [] ls st h)) ∧
  (∀ (ls : zL) (st : zS) (h : zH), zx 153 92 ls st h = zgo 153 (zpure (.iload_n 3) 93 0 [] ls st h)) ∧
  (∀ (ls : zL) (st : zS) (h : zH), zx 153 93 ls st h = zgo 153 (zpure (.iload 4) 95 0 [] ls st h)) ∧
  (∀ (ls : zL) (st : zS) (h : zH), zx 153 95 ls st h = zgo 153 (zpure (.iconst 1) 96 0 [] ls st h)) ∧
  (∀ (ls : zL) (st : zS) (h : zH), zx 153 96 ls st h = zca 153 96 99 ls 152 7 7 (ztake 4 st) h) ∧
  (∀ (ls : zL) (st : zS) (h : zH), zx 153 99 ls st h = zgo 153 (zpure (.if_icmp .ge 7) 102 106 [] ls st h)) ∧
  (∀ (ls : zL) (st : zS) (h : zH), zx 153 102 ls st h = zgo 153 (zpure (.iconst 1) 103 0 [] ls st h)) ∧
  (∀ (ls : zL) (st : zS) (h : zH), zx 153 103 ls st h = zgo 153 (zpure (.goto 4) 106 107 [] ls st h)) ∧
  (∀ (ls : zL) (st : zS) (h : zH), zx 153 106 ls st h = zgo 153 (zpure (.iconst 0) 107 0 [] ls st h)) ∧
  (∀ (ls : zL) (st : zS) (h : zH), zx 153 107 ls st h = zgo 153 (zpure (.istore 5) 109 0 [] ls st h)) ∧
  (∀ (ls : zL) (st : zS) (h : zH), zx 153 109 ls st h = zgo 153 (zpure (.iload_n 2) 110 0 [] ls st h)) ∧
  (∀ (ls : zL) (st : zS) (h : zH), zx 153 110 ls st h = zgo 153 (zpure (.iload 5) 112 0 [] ls st h)) ∧
  (∀ (ls : zL) (st : zS) (h : zH), zx 153 112 ls st h = zgo 153 (zpure (.ifCond .eq 7) 115 119 [] ls st h)) ∧
  (∀ (ls : zL) (st : zS) (h : zH), zx 153 115 ls st h = zgo 153 (zpure (.iconst 1) 116 0 [] ls st h)) ∧
  (∀ (ls : zL) (st : zS) (h : zH), zx 153 116 ls st h = zgo 153 (zpure (.goto 4) 119 120 [] ls st h)) ∧
  (∀ (ls : zL) (st : zS) (h : zH), zx 153 119 ls st h = zgo 153 (zpure (.iconst 0) 120 0 [] ls st h)) ∧
  (∀ (ls : zL) (st : zS) (h : zH), zx 153 120 ls st h = zgo 153 (zpure .iadd 121 0 [] ls st h)) ∧
  (∀ (ls : zL) (st : zS) (h : zH), zx 153 121 ls st h = zgo 153 (zpure (.istore_n 2) 122 0 [] ls st h)) ∧
  (∀ (ls : zL) (st : zS) (h : zH), zx 153 122 ls st h = zgo 153 (zpure (.iinc 4 1) 125 0 [] ls st h)) ∧
  (∀ (ls : zL) (st : zS) (h : zH), zx 153 125 ls st h = zgo 153 (zpure (.goto (-77)) 128 48 [] ls st h)) ∧
  (∀ (ls : zL) (st : zS) (h : zH), zx 153 128 ls st h = zgo 153 (zpure (.iinc 3 1) 131 0 [] ls st h)) ∧
  (∀ (ls : zL) (st : zS) (h : zH), zx 153 131 ls st h = zgo 153 (zpure (.goto (-94)) 134 37 [] ls st h)) ∧
  (∀ (ls : zL) (st : zS) (h : zH), zx 153 134 ls st h = zgo 153 (zpure (.iload_n 2) 135 0 [] ls st h)) ∧
  (∀ (ls : zL) (st : zS) (h : zH), zx 153 135 ls st h = zret 0 st h) :=
  ⟨zx_0 rfl, zx_0 rfl, zx_0 rfl, zx_0 rfl, zx_2c rfl, zx_0 rfl, zx_0 rfl, zx_0 rfl, zx_0 rfl, zx_0 rfl, zx_0 rfl, zx_0 rfl, zx_0 rfl, zx_0 rfl, zx_1 rfl, zx_0 rfl, zx_2c rfl, zx_0 rfl, zx_0 rfl, zx_0 rfl, zx_0 rfl, zx_0 rfl, zx_0 rfl, zx_0 rfl, zx_0 rfl, zx_0 rfl, zx_0 rfl, zx_0 rfl, zx_0 rfl, zx_0 rfl, zx_0 rfl, zx_0 rfl, zx_0 rfl, zx_0 rfl, zx_0 rfl, zx_0 rfl, zx_0 rfl, zx_0 rfl, zx_0 rfl, zx_0 rfl, zx_0 rfl, zx_0 rfl, zx_0 rfl, zx_0 rfl, zx_0 rfl, zx_0 rfl, zx_0 rfl, zx_2c rfl, zx_0 rfl, zx_0 rfl, zx_0 rfl, zx_0 rfl, zx_0 rfl, zx_0 rfl, zx_2c rfl, zx_0 rfl, zx_0 rfl, zx_0 rfl, zx_0 rfl, zx_0 rfl, zx_0 rfl, zx_0 rfl, zx_0 rfl, zx_0 rfl, zx_0 rfl, zx_0 rfl, zx_0 rfl, zx_0 rfl, zx_0 rfl, zx_0 rfl, zx_0 rfl, zx_0 rfl, zx_0 rfl, zx_1 rfl⟩
/-- X6_secondaryStart -/
theorem z154 :
  (∀ (ls : zL) (st : zS) (h : zH), zx 154 0 ls st h = zgo 154 (zpure (.aload_n 0) 1 0 [] ls st h)) ∧
  (∀ (ls : zL) (st : zS) (h : zH), zx 154 1 ls st h = zgo 154 (zpure (.aload_n 0) 2 0 [] ls st h)) ∧
  (∀ (ls : zL) (st : zS) (h : zH), zx 154 2 ls st h = zgo 154 (zpure (.iload_n 1) 3 0 [] ls st h)) ∧
  (∀ (ls : zL) (st : zS) (h : zH), zx 154 3 ls st h = zca 154 3 6 ls 114 2 7 (ztake 2 st) h) ∧
  (∀ (ls : zL) (st : zS) (h : zH), zx 154 6 ls st h = zgo 154 (zpure (.ifCond .eq 23) 9 29 [] ls st h)) ∧
  (∀ (ls : zL) (st : zS) (h : zH), zx 154 9 ls st h = zgo 154 (zpure (.iload_n 2) 10 0 [] ls st h)) ∧
  (∀ (ls : zL) (st : zS) (h : zH), zx 154 10 ls st h = zgo 154 (zpure (.iconst 0) 11 0 [] ls st h)) ∧
  (∀ (ls : zL) (st : zS) (h : zH), zx 154 11 ls st h = zgo 154 (zpure (.aload_n 0) 12 0 [] ls st h)) ∧
  (∀ (ls : zL) (st : zS) (h : zH), zx 154 12 ls st h = zgo 154 (zpure (.getfield 51) 15 0 [6, 14] ls st h)) ∧
  (∀ (ls : zL) (st : zS) (h : zH), zx 154 15 ls st h = zgo 154 (zpure (.iload_n 1) 16 0 [] ls st h)) ∧
  (∀ (ls : zL) (st : zS) (h : zH), zx 154 16 ls st h = zgo 154 (zpure .iaload 17 0 [] ls st h)) ∧
  (∀ (ls : zL) (st : zS) (h : zH), zx 154 17 ls st h = zgo 154 (zpure (.iconst 1) 18 0 [] ls st h)) ∧
  (∀ (ls : zL) (st : zS) (h : zH), zx 154 18 ls st h = zgo 154 (zpure .isub 19 0 [] ls st h)) ∧
  (∀ (ls : zL) (st : zS) (h : zH), zx 154 19 ls st h = zca 154 19 22 ls 105 3 0 (ztake 3 st) h) ∧
  (∀ (ls : zL) (st : zS) (h : zH), zx 154 22 ls st h = zgo 154 (zpure (.ifCond .eq 7) 25 29 [] ls st h)) ∧
  (∀ (ls : zL) (st : zS) (h : zH), zx 154 25 ls st h = zgo 154 (zpure (.iconst 0) 26 0 [] ls st h)) ∧
  (∀ (ls : zL) (st : zS) (h : zH), zx 154 26 ls st h = zgo 154 (zpure (.goto 4) 29 30 [] ls st h)) ∧
  (∀ (ls : zL) (st : zS) (h : zH), zx 154 29 ls st h = zgo 154 (zpure (.iconst 1) 30 0 [] ls st h)) ∧
  (∀ (ls : zL) (st : zS) (h : zH), zx 154 30 ls st h = zgo 154 (zpure (.putfield 84) 33 0 [6, 32, 0] ls st h)) ∧
  (∀ (ls : zL) (st : zS) (h : zH), zx 154 33 ls st h = zgo 154 (zpure (.aload_n 0) 34 0 [] ls st h)) ∧
  (∀ (ls : zL) (st : zS) (h : zH), zx 154 34 ls st h = zgo 154 (zpure (.getfield 84) 37 0 [6, 32] ls st h)) ∧
  (∀ (ls : zL) (st : zS) (h : zH), zx 154 37 ls st h = zgo 154 (zpure (.ifCond .le 5) 40 42 [] ls st h)) ∧
  (∀ (ls : zL) (st : zS) (h : zH), zx 154 40 ls st h = zgo 154 (zpure (.iconst 0) 41 0 [] ls st h)) ∧
  (∀ (ls : zL) (st : zS) (h : zH), zx 154 41 ls st h = zret 0 st h) ∧
  (∀ (ls : zL) (st : zS) (h : zH), zx 154 42 ls st h = zgo 154 (zpure (.aload_n 0) 43 0 [] ls st h)) ∧
  (∀ (ls : zL) (st : zS) (h : zH), zx 154 43 ls st h = zgo 154 (zpure (.iload_n 1) 44 0 [] ls st h)) ∧
  (∀ (ls : zL) (st : zS) (h : zH), zx 154 44 ls st h = zca 154 44 47 ls 140 2 7 (ztake 2 st) h) ∧
  (∀ (ls : zL) (st : zS) (h : zH), zx 154 47 ls st h = zgo 154 (zpure (.ifCond .ne 5) 50 52 [] ls st h)) ∧
  (∀ (ls : zL) (st : zS) (h : zH), zx 154 50 ls st h = zgo 154 (zpure (.iconst 0) 51 0 [] ls st h)) ∧
  (∀ (ls : zL) (st : zS) (h : zH), zx 154 51 ls st h = zret 0 st h) ∧
  (∀ (ls : zL) (st : zS) (h : zH), zx 154 52 ls st h = zgo 154 (zpure (.aload_n 0) 53 0 [] ls st h)) ∧
  (∀ (ls : zL) (st : zS) (h : zH), zx 154 53 ls st h = zgo 154 (zpure (.iload_n 1) 54 0 [] ls st h)) ∧
  (∀ (ls : zL) (st : zS) (h : zH), zx 154 54 ls st h = zgo 154 (zpure (.iload_n 2) 55 0 [] ls st h)) ∧
  (∀ (ls : zL) (st : zS) (h : zH), zx 154 55 ls st h = zgo 154 (zpure (.iconst 0) 56 0 [] ls st h)) ∧
  (∀ (ls : zL) (st : zS) (h : zH), zx 154 56 ls st h = zca 154 56 59 ls 152 7 7 (ztake 4 st) h) ∧
  (∀ (ls : zL) (st : zS) (h : zH), zx 154 59 ls st h = zgo 154 (zpure (.istore_n 3) 60 0 [] ls st h)) ∧
  (∀ (ls : zL) (st : zS) (h : zH), zx 154 60 ls st h = zgo 154 (zpure (.iload_n 3) 61 0 [] ls st h)) ∧
  (∀ (ls : zL) (st : zS) (h : zH), zx 154 61 ls st h = zgo 154 (zpure (.aload_n 0) 62 0 [] ls st h)) ∧
  (∀ (ls : zL) (st : zS) (h : zH), zx 154 62 ls st h = zgo 154 (zpure (.iload_n 1) 63 0 [] ls st h)) ∧
  (∀ (ls : zL) (st : zS) (h : zH), zx 154 63 ls st h = zgo 154 (zpure (.iload_n 2) 64 0 [] ls st h)) ∧
  (∀ (ls : zL) (st : zS) (h : zH), zx 154 64 ls st h = zgo 154 (zpure (.iconst 1) 65 0 [] ls st h)) ∧
  (∀ (ls : zL) (st : zS) (h : zH), zx 154 65 ls st h = zca 154 65 68 ls 152 7 7 (ztake 4 st) h) ∧
  (∀ (ls : zL) (st : zS) (h : zH), zx 154 68 ls st h = zgo 154 (zpure (.if_icmp .ge 7) 71 75 [] ls st h)) ∧
  (∀ (ls : zL) (st : zS) (h : zH), zx 154 71 ls st h = zgo 154 (zpure (.iload_n 3) 72 0 [] ls st h)) ∧
  (∀ (ls : zL) (st : zS) (h : zH), zx 154 72 ls st h = zgo 154 (zpure (.goto 8) 75 80 [] ls st h)) ∧
  (∀ (ls : zL) (st : zS) (h : zH), zx 154 75 ls st h = zgo 154 (zpure (.aload_n 0) 76 0 [] ls st h)) ∧
  (∀ (ls : zL) (st : zS) (h : zH), zx 154 76 ls st h = zgo 154 (zpure (.iconst 2) 77 0 [] ls st h)) ∧
  (∀ (ls : zL) (st : zS) (h : zH), zx 154 77 ls st h = zca 154 77 80 ls 104 2 7 (ztake 2 st) h) ∧
  (∀ (ls : zL) (st : zS) (h : zH), zx 154 80 ls st h = zret 0 st h) :=
  ⟨zx_0 rfl, zx_0 rfl, zx_0 rfl, zx_2c rfl, zx_0 rfl, zx_0 rfl, zx_0 rfl, zx_0 rfl, zx_0 rfl, zx_0 rfl, zx_0 rfl, zx_0 rfl, zx_0 rfl, zx_2c rfl, zx_0 rfl, zx_0 rfl, zx_0 rfl, zx_0 rfl, zx_0 rfl, zx_0 rfl, zx_0 rfl, zx_0 rfl, zx_0 rfl, zx_1 rfl, zx_0 rfl, zx_0 rfl, zx_2c rfl, zx_0 rfl, zx_0 rfl, zx_1 rfl, zx_0 rfl, zx_0 rfl, zx_0 rfl, zx_0 rfl, zx_2c rfl, zx_0 rfl, zx_0 rfl, zx_0 rfl, zx_0 rfl, zx_0 rfl, zx_0 rfl, zx_2c rfl, zx_0 rfl, zx_0 rfl, zx_0 rfl, zx_0 rfl, zx_0 rfl, zx_2c rfl, zx_1 rfl⟩
theorem z155_10 : ∀ (ls : zL) (st : zS) (h : zH), zx 155 10 ls st h = zgo 155 (zpure (.iload_n 3) 11 0 [] ls st h) := zx_0 rfl
/-- X6_meanLevel -/
theorem z155 :
  (∀ (ls : zL) (st : zS) (h : zH), zx 155 0 ls st h = zgo 155 (zpure (.aload_n 0) 1 0 [] ls st h)) ∧
  (∀ (ls : zL) (st : zS) (h : zH), zx 155 1 ls st h = zca 155 1 4 ls 138 3 7 (ztake 1 st) h) ∧
  (∀ (ls : zL) (st : zS) (h : zH), zx 155 4 ls st h = zgo 155 (zpure (.fconst 0) 5 0 [] ls st h)) ∧
  (∀ (ls : zL) (st : zS) (h : zH), zx 155 5 ls st h = zgo 155 (zpure (.fstore_n 1) 6 0 [] ls st h)) ∧
  (∀ (ls : zL) (st : zS) (h : zH), zx 155 6 ls st h = zgo 155 (zpure (.iconst 0) 7 0 [] ls st h)) ∧
  (∀ (ls : zL) (st : zS) (h : zH), zx 155 7 ls st h = zgo 155 (zpure (.istore_n 2) 8 0 [] ls st h)) ∧
  (∀ (ls : zL) (st : zS) (h : zH), zx 155 8 ls st h = zgo 155 (zpure (.iconst 0) 9 0 [] ls st h)) ∧
  (∀ (ls : zL) (st : zS) (h : zH), zx 155 9 ls st h = zgo 155 (zpure (.istore_n 3) 10 0 [] ls st h)) ∧
  (∀ (ls : zL) (st : zS) (h : zH), zx 155 11 ls st h = zgo 155 (zpure (.aload_n 0) 12 0 [] ls st h)) ∧
  (∀ (ls : zL) (st : zS) (h : zH), zx 155 12 ls st h = zgo 155 (zpure (.getfield 171) 15 0 [6, 21] ls st h)) ∧
  (∀ (ls : zL) (st : zS) (h : zH), zx 155 15 ls st h = zgo 155 (zpure (.if_icmp .ge 57) 18 72 [] ls st h)) ∧
  (∀ (ls : zL) (st : zS) (h : zH), zx 155 18 ls st h = zgo 155 (zpure (.aload_n 0) 19 0 [] ls st h)) ∧
  (∀ (ls : zL) (st : zS) (h : zH), zx 155 19 ls st h = zgo 155 (zpure (.getfield 54) 22 0 [6, 17] ls st h)) ∧
  (∀ (ls : zL) (st : zS) (h : zH), zx 155 22 ls st h = zgo 155 (zpure (.iload_n 3) 23 0 [] ls st h)) ∧
  (∀ (ls : zL) (st : zS) (h : zH), zx 155 23 ls st h = zgo 155 (zpure .iaload 24 0 [] ls st h)) ∧
  (∀ (ls : zL) (st : zS) (h : zH), zx 155 24 ls st h = zgo 155 (zpure (.iconst (-1)) 25 0 [] ls st h)) ∧
  (∀ (ls : zL) (st : zS) (h : zH), zx 155 25 ls st h = zgo 155 (zpure (.if_icmp .eq 41) 28 66 [] ls st h)) ∧
  (∀ (ls : zL) (st : zS) (h : zH), zx 155 28 ls st h = zgo 155 (zpure (.aload_n 0) 29 0 [] ls st h)) ∧
  (∀ (ls : zL) (st : zS) (h : zH), zx 155 29 ls st h = zgo 155 (zpure (.getfield 60) 32 0 [6, 19] ls st h)) ∧
  (∀ (ls : zL) (st : zS) (h : zH), zx 155 32 ls st h = zgo 155 (zpure (.iload_n 3) 33 0 [] ls st h)) ∧
  (∀ (ls : zL) (st : zS) (h : zH), zx 155 33 ls st h = zgo 155 (zpure .iaload 34 0 [] ls st h)) ∧
  (∀ (ls : zL) (st : zS) (h : zH), zx 155 34 ls st h = zgo 155 (zpure (.aload_n 0) 35 0 [] ls st h)) ∧
  (∀ (ls : zL) (st : zS) (h : zH), zx 155 35 ls st h = zgo 155 (zpure (.getfield 57) 38 0 [6, 18] ls st h)) ∧
  (∀ (ls : zL) (st : zS) (h : zH), zx 155 38 ls st h = zgo 155 (zpure (.iload_n 3) 39 0 [] ls st h)) ∧
  (∀ (ls : zL) (st : zS) (h : zH), zx 155 39 ls st h = zgo 155 (zpure .iaload 40 0 [] ls st h)) ∧
  (∀ (ls : zL) (st : zS) (h : zH), zx 155 40 ls st h = zgo 155 (zpure .isub 41 0 [] ls st h)) ∧
  (∀ (ls : zL) (st : zS) (h : zH), zx 155 41 ls st h = zgo 155 (zpure (.istore 4) 43 0 [] ls st h)) ∧
  (∀ (ls : zL) (st : zS) (h : zH), zx 155 43 ls st h = zgo 155 (zpure (.fload_n 1) 44 0 [] ls st h)) ∧
  (∀ (ls : zL) (st : zS) (h : zH), zx 155 44 ls st h = zgo 155 (zpure (.aload_n 0) 45 0 [] ls st h)) ∧
  (∀ (ls : zL) (st : zS) (h : zH), zx 155 45 ls st h = zgo 155 (zpure (.getfield 13) 48 0 [6, 1] ls st h)) ∧
  (∀ (ls : zL) (st : zS) (h : zH), zx 155 48 ls st h = zgo 155 (zpure (.aload_n 0) 49 0 [] ls st h)) ∧
  (∀ (ls : zL) (st : zS) (h : zH), zx 155 49 ls st h = zgo 155 (zpure (.getfield 54) 52 0 [6, 17] ls st h)) ∧
  (∀ (ls : zL) (st : zS) (h : zH), zx 155 52 ls st h = zgo 155 (zpure (.iload_n 3) 53 0 [] ls st h)) ∧
  (∀ (ls : zL) (st : zS) (h : zH), zx 155 53 ls st h = zgo 155 (zpure .iaload 54 0 [] ls st h)) ∧
  (∀ (ls : zL) (st : zS) (h : zH), zx 155 54 ls st h = zgo 155 (zpure .iaload 55 0 [] ls st h)) ∧
  (∀ (ls : zL) (st : zS) (h : zH), zx 155 55 ls st h = zgo 155 (zpure (.iload 4) 57 0 [] ls st h)) ∧
  (∀ (ls : zL) (st : zS) (h : zH), zx 155 57 ls st h = zgo 155 (zpure .imul 58 0 [] ls st h)) ∧
  (∀ (ls : zL) (st : zS) (h : zH), zx 155 58 ls st h = zgo 155 (zpure .i2f 59 0 [] ls st h)) ∧
  (∀ (ls : zL) (st : zS) (h : zH), zx 155 59 ls st h = zgo 155 (zpure .fadd 60 0 [] ls st h)) ∧
  (∀ (ls : zL) (st : zS) (h : zH), zx 155 60 ls st h = zgo 155 (zpure (.fstore_n 1) 61 0 [] ls st h)) ∧
  (∀ (ls : zL) (st : zS) (h : zH), zx 155 61 ls st h = zgo 155 (zpure (.iload_n 2) 62 0 [] ls st h)) ∧
  (∀ (ls : zL) (st : zS) (h : zH), zx 155 62 ls st h = zgo 155 (zpure (.iload 4) 64 0 [] ls st h)) ∧
  (∀ (ls : zL) (st : zS) (h : zH), zx 155 64 ls st h = zgo 155 (zpure .iadd 65 0 [] ls st h)) ∧
  (∀ (ls : zL) (st : zS) (h : zH), zx 155 65 ls st h = zgo 155 (zpure (.istore_n 2) 66 0 [] ls st h)) ∧
  (∀ (ls : zL) (st : zS) (h : zH), zx 155 66 ls st h = zgo 155 (zpure (.iinc 3 1) 69 0 [] ls st h)) ∧
  (∀ (ls : zL) (st : zS) (h : zH), zx 155 69 ls st h = zgo 155 (zpure (.goto (-59)) 72 10 [] ls st h)) ∧
  (∀ (ls : zL) (st : zS) (h : zH), zx 155 72 ls st h = zgo 155 (zpure (.aload_n 0) 73 0 [] ls st h)) ∧
  (∀ (ls : zL) (st : zS) (h : zH), zx 155 73 ls st h = zgo 155 (zpure (.iload_n 2) 74 0 [] ls st h)) ∧
  (∀ (ls : zL) (st : zS) (h : zH), zx 155 74 ls st h = zgo 155 (zpure (.ifCond .ne 7) 77 81 [] ls st h)) ∧
  (∀ (ls : zL) (st : zS) (h : zH), zx 155 77 ls st h = zgo 155 (zpure (.iconst 1) 78 0 [] ls st h)) ∧
  (∀ (ls : zL) (st : zS) (h : zH), zx 155 78 ls st h = zgo 155 (zpure (.goto 4) 81 82 [] ls st h)) ∧
  (∀ (ls : zL) (st : zS) (h : zH), zx 155 81 ls st h = zgo 155 (zpure (.iconst 0) 82 0 [] ls st h)) ∧
  (∀ (ls : zL) (st : zS) (h : zH), zx 155 82 ls st h = zgo 155 (zpure (.putfield 84) 85 0 [6, 32, 0] ls st h)) ∧
  (∀ (ls : zL) (st : zS) (h : zH), zx 155 85 ls st h = zgo 155 (zpure (.aload_n 0) 86 0 [] ls st h)) ∧
  (∀ (ls : zL) (st : zS) (h : zH), zx 155 86 ls st h = zgo 155 (zpure (.getfield 84) 89 0 [6, 32] ls st h)) ∧
  (∀ (ls : zL) (st : zS) (h : zH), zx 155 89 ls st h = zgo 155 (zpure (.ifCond .le 7) 92 96 [] ls st h)) ∧
  (∀ (ls : zL) (st : zS) (h : zH), zx 155 92 ls st h = zgo 155 (zpure (.fconst 0) 93 0 [] ls st h)) ∧
  (∀ (ls : zL) (st : zS) (h : zH), zx 155 93 ls st h = zgo 155 (zpure (.goto 7) 96 100 [] ls st h)) ∧
  (∀ (ls : zL) (st : zS) (h : zH), zx 155 96 ls st h = zgo 155 (zpure (.fload_n 1) 97 0 [] ls st h)) ∧
  (∀ (ls : zL) (st : zS) (h : zH), zx 155 97 ls st h = zgo 155 (zpure (.iload_n 2) 98 0 [] ls st h)) ∧
  (∀ (ls : zL) (st : zS) (h : zH), zx 155 98 ls st h = zgo 155 (zpure .i2f 99 0 [] ls st h)) ∧
  (∀ (ls : zL) (st : zS) (h : zH), zx 155 99 ls st h = zgo 155 (zpure .fdiv 100 0 [] ls st h)) ∧
  (∀ (ls : zL) (st : zS) (h : zH), zx 155 100 ls st h = zret 5 st h) :=
  ⟨zx_0 rfl, zx_2c rfl, zx_0 rfl, zx_0 rfl, zx_0 rfl, zx_0 rfl, zx_0 rfl, zx_0 rfl, zx_0 rfl, zx_0 rfl, zx_0 rfl, zx_0 rfl, zx_0 rfl, zx_0 rfl, zx_0 rfl, zx_0 rfl, zx_0 rfl, zx_0 rfl, zx_0 rfl, zx_0 rfl, zx_0 rfl, zx_0 rfl, zx_0 rfl, zx_0 rfl, zx_0 rfl, zx_0 rfl, zx_0 rfl, zx_0 rfl, zx_0 rfl, zx_0 rfl, zx_0 rfl, zx_0 rfl, zx_0 rfl, zx_0 rfl, zx_0 rfl, zx_0 rfl, zx_0 rfl, zx_0 rfl, zx_0 rfl, zx_0 rfl, zx_0 rfl, zx_0 rfl, zx_0 rfl, zx_0 rfl, zx_0 rfl, zx_0 rfl, zx_0 rfl, zx_0 rfl, zx_0 rfl, zx_0 rfl, zx_0 rfl, zx_0 rfl, zx_0 rfl, zx_0 rfl, zx_0 rfl, zx_0 rfl, zx_0 rfl, zx_0 rfl, zx_0 rfl, zx_0 rfl, zx_0 rfl, zx_0 rfl, zx_1 rfl⟩
/-- X6_meanLevelBits -/
theorem z156 :
  (∀ (ls : zL) (st : zS) (h : zH), zx 156 0 ls st h = zgo 156 (zpure (.aload_n 0) 1 0 [] ls st h)) ∧
  (∀ (ls : zL) (st : zS) (h : zH), zx 156 1 ls st h = zca 156 1 4 ls 155 5 7 (ztake 1 st) h) ∧
  (∀ (ls : zL) (st : zS) (h : zH), zx 156 4 ls st h = zgo 156 (zpure (.fstore_n 1) 5 0 [] ls st h)) ∧
  (∀ (ls : zL) (st : zS) (h : zH), zx 156 5 ls st h = zgo 156 (zpure (.aload_n 0) 6 0 [] ls st h)) ∧
  (∀ (ls : zL) (st : zS) (h : zH), zx 156 6 ls st h = zgo 156 (zpure (.getfield 84) 9 0 [6, 32] ls st h)) ∧
  (∀ (ls : zL) (st : zS) (h : zH), zx 156 9 ls st h = zgo 156 (zpure (.ifCond .le 7) 12 16 [] ls st h)) ∧
  (∀ (ls : zL) (st : zS) (h : zH), zx 156 12 ls st h = zgo 156 (zpure (.iconst 0) 13 0 [] ls st h)) ∧
  (∀ (ls : zL) (st : zS) (h : zH), zx 156 13 ls st h = zgo 156 (zpure (.goto 7) 16 20 [] ls st h)) ∧
  (∀ (ls : zL) (st : zS) (h : zH), zx 156 16 ls st h = zgo 156 (zpure (.fload_n 1) 17 0 [] ls st h)) ∧
  (∀ (ls : zL) (st : zS) (h : zH), zx 156 17 ls st h = zca 156 17 20 ls 184 1 0 (ztake 1 st) h) ∧
  (∀ (ls : zL) (st : zS) (h : zH), zx 156 20 ls st h = zret 0 st h) :=
  ⟨zx_0 rfl, zx_2c rfl, zx_0 rfl, zx_0 rfl, zx_0 rfl, zx_0 rfl, zx_0 rfl, zx_0 rfl, zx_0 rfl, zx_2c rfl, zx_1 rfl⟩
theorem z157_34 : ∀ (ls : zL) (st : zS) (h : zH), zx 157 34 ls st h = zgo 157 (zpure (.iload_n 1) 35 0 [] ls st h) := zx_0 rfl
theorem z157_98 : ∀ (ls : zL) (st : zS) (h : zH), zx 157 98 ls st h = zgo 157 (zpure (.iload_n 1) 99 0 [] ls st h) := zx_0 rfl
/-- X6_air -/
theorem z157 :
  (∀ (ls : zL) (st : zS) (h : zH), zx 157 0 ls st h = zgo 157 (zpure (.aload_n 0) 1 0 [] ls st h)) ∧
  (∀ (ls : zL) (st : zS) (h : zH), zx 157 1 ls st h = zgo 157 (zpure (.aload_n 0) 2 0 [] ls st h)) ∧
  (∀ (ls : zL) (st : zS) (h : zH), zx 157 2 ls st h = zgo 157 (zpure (.getfield 125) 5 0 [6, 16] ls st h)) ∧
  (∀ (ls : zL) (st : zS) (h : zH), zx 157 5 ls st h = zgo 157 (zpure (.sipush 999) 8 0 [] ls st h)) ∧
  (∀ (ls : zL) (st : zS) (h : zH), zx 157 8 ls st h = zgo 157 (zpure (.if_icmp .ne 7) 11 15 [] ls st h)) ∧
  (∀ (ls : zL) (st : zS) (h : zH), zx 157 11 ls st h = zgo 157 (zpure (.iconst 1) 12 0 [] ls st h)) ∧
  (∀ (ls : zL) (st : zS) (h : zH), zx 157 12 ls st h = zgo 157 (zpure (.goto 4) 15 16 [] ls st h)) ∧
  (∀ (ls : zL) (st : zS) (h : zH), zx 157 15 ls st h = zgo 157 (zpure (.iconst 0) 16 0 [] ls st h)) ∧
  (∀ (ls : zL) (st : zS) (h : zH), zx 157 16 ls st h = zgo 157 (zpure (.putfield 84) 19 0 [6, 32, 0] ls st h)) ∧
  (∀ (ls : zL) (st : zS) (h : zH), zx 157 19 ls st h = zgo 157 (zpure (.aload_n 0) 20 0 [] ls st h)) ∧
  (∀ (ls : zL) (st : zS) (h : zH), zx 157 20 ls st h = zgo 157 (zpure (.getfield 84) 23 0 [6, 32] ls st h)) ∧
  (∀ (ls : zL) (st : zS) (h : zH), zx 157 23 ls st h = zgo 157 (zpure (.ifCond .le 5) 26 28 [] ls st h)) ∧
  (∀ (ls : zL) (st : zS) (h : zH), zx 157 26 ls st h = zgo 157 (zpure (.iconst 0) 27 0 [] ls st h)) ∧
  (∀ (ls : zL) (st : zS) (h : zH), zx 157 27 ls st h = zret 0 st h) ∧
  (∀ (ls : zL) (st : zS) (h : zH), zx 157 28 ls st h = zgo 157 (zpure (.aload_n 0) 29 0 [] ls st h)) ∧
  (∀ (ls : zL) (st : zS) (h : zH), zx 157 29 ls st h = zca 157 29 32 ls 138 3 7 (ztake 1 st) h) ∧
  (∀ (ls : zL) (st : zS) (h : zH), zx 157 32 ls st h = zgo 157 (zpure (.iconst 0) 33 0 [] ls st h)) ∧
  (∀ (ls : zL) (st : zS) (h : zH), zx 157 33 ls st h = zgo 157 (zpure (.istore_n 1) 34 0 [] ls st h)) ∧
  (∀ (ls : zL) (st : zS) (h : zH), zx 157 35 ls st h = zgo 157 (zpure (.aload_n 0) 36 0 [] ls st h)) ∧
  (∀ (ls : zL) (st : zS) (h : zH), zx 157 36 ls st h = zgo 157 (zpure (.getfield 109) 39 0 [6, 15] ls st h)) ∧
  (∀ (ls : zL) (st : zS) (h : zH), zx 157 39 ls st h = zgo 157 (zpure (.if_icmp .ge 44) 42 83 [] ls st h)) ∧
  (∀ (ls : zL) (st : zS) (h : zH), zx 157 42 ls st h = zgo 157 (zpure (.aload_n 0) 43 0 [] ls st h)) ∧
  (∀ (ls : zL) (st : zS) (h : zH), zx 157 43 ls st h = zgo 157 (zpure (.getfield 16) 46 0 [6, 2] ls st h)) ∧
  (∀ (ls : zL) (st : zS) (h : zH), zx 157 46 ls st h = zgo 157 (zpure (.aload_n 0) 47 0 [] ls st h)) ∧
  (∀ (ls : zL) (st : zS) (h : zH), zx 157 47 ls st h = zgo 157 (zpure (.getfield 33) 50 0 [6, 9] ls st h)) ∧
  (∀ (ls : zL) (st : zS) (h : zH), zx 157 50 ls st h = zgo 157 (zpure (.iload_n 1) 51 0 [] ls st h)) ∧
  (∀ (ls : zL) (st : zS) (h : zH), zx 157 51 ls st h = zgo 157 (zpure .iaload 52 0 [] ls st h)) ∧
  (∀ (ls : zL) (st : zS) (h : zH), zx 157 52 ls st h = zgo 157 (zpure .dup2 53 0 [] ls st h)) ∧
  (∀ (ls : zL) (st : zS) (h : zH), zx 157 53 ls st h = zgo 157 (zpure .iaload 54 0 [] ls st h)) ∧
  (∀ (ls : zL) (st : zS) (h : zH), zx 157 54 ls st h = zgo 157 (zpure (.aload_n 0) 55 0 [] ls st h)) ∧
  (∀ (ls : zL) (st : zS) (h : zH), zx 157 55 ls st h = zgo 157 (zpure (.getfield 66) 58 0 [6, 22] ls st h)) ∧
  (∀ (ls : zL) (st : zS) (h : zH), zx 157 58 ls st h = zgo 157 (zpure (.iload_n 1) 59 0 [] ls st h)) ∧
  (∀ (ls : zL) (st : zS) (h : zH), zx 157 59 ls st h = zgo 157 (zpure .baload 60 0 [] ls st h)) ∧
  (∀ (ls : zL) (st : zS) (h : zH), zx 157 60 ls st h = zgo 157 (zpure (.ifCond .eq 7) 63 67 [] ls st h)) ∧
  (∀ (ls : zL) (st : zS) (h : zH), zx 157 63 ls st h = zgo 157 (zpure (.iconst 0) 64 0 [] ls st h)) ∧
  (∀ (ls : zL) (st : zS) (h : zH), zx 157 64 ls st h = zgo 157 (zpure (.goto 4) 67 68 [] ls st h)) ∧
  (∀ (ls : zL) (st : zS) (h : zH), zx 157 67 ls st h = zgo 157 (zpure (.iconst 1) 68 0 [] ls st h)) ∧
  (∀ (ls : zL) (st : zS) (h : zH), zx 157 68 ls st h = zgo 157 (zpure .isub 69 0 [] ls st h)) ∧
  (∀ (ls : zL) (st : zS) (h : zH), zx 157 69 ls st h = zgo 157 (zpure .iastore 70 0 [] ls st h)) ∧
  (∀ (ls : zL) (st : zS) (h : zH), zx 157 70 ls st h = zgo 157 (zpure (.aload_n 0) 71 0 [] ls st h)) ∧
  (∀ (ls : zL) (st : zS) (h : zH), zx 157 71 ls st h = zgo 157 (zpure (.getfield 39) 74 0 [6, 11] ls st h)) ∧
  (∀ (ls : zL) (st : zS) (h : zH), zx 157 74 ls st h = zgo 157 (zpure (.iload_n 1) 75 0 [] ls st h)) ∧
  (∀ (ls : zL) (st : zS) (h : zH), zx 157 75 ls st h = zgo 157 (zpure (.iconst 0) 76 0 [] ls st h)) ∧
  (∀ (ls : zL) (st : zS) (h : zH), zx 157 76 ls st h = zgo 157 (zpure .iastore 77 0 [] ls st h)) ∧
  (∀ (ls : zL) (st : zS) (h : zH), zx 157 77 ls st h = zgo 157 (zpure (.iinc 1 1) 80 0 [] ls st h)) ∧
  (∀ (ls : zL) (st : zS) (h : zH), zx 157 80 ls st h = zgo 157 (zpure (.goto (-46)) 83 34 [] ls st h)) ∧
  (∀ (ls : zL) (st : zS) (h : zH), zx 157 83 ls st h = zgo 157 (zpure (.aload_n 0) 84 0 [] ls st h)) ∧
  (∀ (ls : zL) (st : zS) (h : zH), zx 157 84 ls st h = zgo 157 (zpure (.aload_n 0) 85 0 [] ls st h)) ∧
  (∀ (ls : zL) (st : zS) (h : zH), zx 157 85 ls st h = zgo 157 (zpure (.getfield 171) 88 0 [6, 21] ls st h)) ∧
  (∀ (ls : zL) (st : zS) (h : zH), zx 157 88 ls st h = zgo 157 (zpure (.putfield 230) 91 0 [6, 30, 0] ls st h)) ∧
  (∀ (ls : zL) (st : zS) (h : zH), zx 157 91 ls st h = zgo 157 (zpure (.aload_n 0) 92 0 [] ls st h)) ∧
  (∀ (ls : zL) (st : zS) (h : zH), zx 157 92 ls st h = zgo 157 (zpure (.iconst 1) 93 0 [] ls st h)) ∧
  (∀ (ls : zL) (st : zS) (h : zH), zx 157 93 ls st h = zgo 157 (zpure (.putfield 233) 96 0 [6, 31, 1] ls st h)) ∧
  (∀ (ls : zL) (st : zS) (h : zH), zx 157 96 ls st h = zgo 157 (zpure (.iconst 0) 97 0 [] ls st h)) ∧
  (∀ (ls : zL) (st : zS) (h : zH), zx 157 97 ls st h = zgo 157 (zpure (.istore_n 1) 98 0 [] ls st h)) ∧
  (∀ (ls : zL) (st : zS) (h : zH), zx 157 99 ls st h = zgo 157 (zpure (.aload_n 0) 100 0 [] ls st h)) ∧
  (∀ (ls : zL) (st : zS) (h : zH), zx 157 100 ls st h = zgo 157 (zpure (.getfield 171) 103 0 [6, 21] ls st h)) ∧
  (∀ (ls : zL) (st : zS) (h : zH), zx 157 103 ls st h = zgo 157 (zpure (.if_icmp .ge 71) 106 174 [] ls st h)) ∧
  (∀ (ls : zL) (st : zS) (h : zH), zx 157 106 ls st h = zgo 157 (zpure (.aload_n 0) 107 0 [] ls st h)) ∧
  (∀ (ls : zL) (st : zS) (h : zH), zx 157 107 ls st h = zgo 157 (zpure (.getfield 78) 110 0 [6, 28] ls st h)) ∧
  (∀ (ls : zL) (st : zS) (h : zH), zx 157 110 ls st h = zgo 157 (zpure (.iload_n 1) 111 0 [] ls st h)) ∧
  (∀ (ls : zL) (st : zS) (h : zH), zx 157 111 ls st h = zgo 157 (zpure (.aload_n 0) 112 0 [] ls st h)) ∧
  (∀ (ls : zL) (st : zS) (h : zH), zx 157 112 ls st h = zgo 157 (zpure (.getfield 54) 115 0 [6, 17] ls st h)) ∧
  (∀ (ls : zL) (st : zS) (h : zH), zx 157 115 ls st h = zgo 157 (zpure (.iload_n 1) 116 0 [] ls st h)) ∧
  (∀ (ls : zL) (st : zS) (h : zH), zx 157 116 ls st h = zgo 157 (zpure .iaload 117 0 [] ls st h)) ∧
  (∀ (ls : zL) (st : zS) (h : zH), zx 157 117 ls st h = zgo 157 (zpure .iastore 118 0 [] ls st h)) ∧
  (∀ (ls : zL) (st : zS) (h : zH), zx 157 118 ls st h = zgo 157 (zpure (.aload_n 0) 119 0 [] ls st h)) ∧
  (∀ (ls : zL) (st : zS) (h : zH), zx 157 119 ls st h = zgo 157 (zpure (.getfield 81) 122 0 [6, 29] ls st h)) ∧
  (∀ (ls : zL) (st : zS) (h : zH), zx 157 122 ls st h = zgo 157 (zpure (.iload_n 1) 123 0 [] ls st h)) ∧
  (∀ (ls : zL) (st : zS) (h : zH), zx 157 123 ls st h = zgo 157 (zpure (.aload_n 0) 124 0 [] ls st h)) ∧
  (∀ (ls : zL) (st : zS) (h : zH), zx 157 124 ls st h = zgo 157 (zpure (.getfield 57) 127 0 [6, 18] ls st h)) ∧
  (∀ (ls : zL) (st : zS) (h : zH), zx 157 127 ls st h = zgo 157 (zpure (.iload_n 1) 128 0 [] ls st h)) ∧
  (∀ (ls : zL) (st : zS) (h : zH), zx 157 128 ls st h = zgo 157 (zpure .iaload 129 0 [] ls st h)) ∧
  (∀ (ls : zL) (st : zS) (h : zH), zx 157 129 ls st h = zgo 157 (zpure .iastore 130 0 [] ls st h)) ∧
  (∀ (ls : zL) (st : zS) (h : zH), zx 157 130 ls st h = zgo 157 (zpure (.aload_n 0) 131 0 [] ls st h)) ∧
  (∀ (ls : zL) (st : zS) (h : zH), zx 157 131 ls st h = zgo 157 (zpure (.getfield 54) 134 0 [6, 17] ls st h)) ∧
  (∀ (ls : zL) (st : zS) (h : zH), zx 157 134 ls st h = zgo 157 (zpure (.iload_n 1) 135 0 [] ls st h)) ∧
  (∀ (ls : zL) (st : zS) (h : zH), zx 157 135 ls st h = zgo 157 (zpure .iaload 136 0 [] ls st h)) ∧
  (∀ (ls : zL) (st : zS) (h : zH), zx 157 136 ls st h = zgo 157 (zpure (.iconst (-1)) 137 0 [] ls st h)) ∧
  (∀ (ls : zL) (st : zS) (h : zH), zx 157 137 ls st h = zgo 157 (zpure (.if_icmp .eq 31) 140 168 [] ls st h)) ∧
  (∀ (ls : zL) (st : zS) (h : zH), zx 157 140 ls st h = zgo 157 (zpure (.aload_n 0) 141 0 [] ls st h)) ∧
  (∀ (ls : zL) (st : zS) (h : zH), zx 157 141 ls st h = zgo 157 (zpure (.getfield 29) 144 0 [6, 6] ls st h)) ∧
  (∀ (ls : zL) (st : zS) (h : zH), zx 157 144 ls st h = zgo 157 (zpure (.aload_n 0) 145 0 [] ls st h)) ∧
  (∀ (ls : zL) (st : zS) (h : zH), zx 157 145 ls st h = zgo 157 (zpure (.getfield 54) 148 0 [6, 17] ls st h)) ∧
  (∀ (ls : zL) (st : zS) (h : zH), zx 157 148 ls st h = zgo 157 (zpure (.iload_n 1) 149 0 [] ls st h)) ∧
  (∀ (ls : zL) (st : zS) (h : zH), zx 157 149 ls st h = zgo 157 (zpure .iaload 150 0 [] ls st h)) ∧
  (∀ (ls : zL) (st : zS) (h : zH), zx 157 150 ls st h = zgo 157 (zpure .dup2 151 0 [] ls st h)) ∧
  (∀ (ls : zL) (st : zS) (h : zH), zx 157 151 ls st h = zgo 157 (zpure .laload 152 0 [] ls st h)) ∧
  (∀ (ls : zL) (st : zS) (h : zH), zx 157 152 ls st h = zgo 157 (zpure (.aload_n 0) 153 0 [] ls st h)) ∧
  (∀ (ls : zL) (st : zS) (h : zH), zx 157 153 ls st h = zgo 157 (zpure (.getfield 60) 156 0 [6, 19] ls st h)) ∧
  (∀ (ls : zL) (st : zS) (h : zH), zx 157 156 ls st h = zgo 157 (zpure (.iload_n 1) 157 0 [] ls st h)) ∧
  (∀ (ls : zL) (st : zS) (h : zH), zx 157 157 ls st h = zgo 157 (zpure .iaload 158 0 [] ls st h)) ∧
  (∀ (ls : zL) (st : zS) (h : zH), zx 157 158 ls st h = zgo 157 (zpure (.aload_n 0) 159 0 [] ls st h)) ∧
  (∀ (ls : zL) (st : zS) (h : zH), zx 157 159 ls st h = zgo 157 (zpure (.getfield 57) 162 0 [6, 18] ls st h)) ∧
  (∀ (ls : zL) (st : zS) (h : zH), zx 157 162 ls st h = zgo 157 (zpure (.iload_n 1) 163 0 [] ls st h)) ∧
  (∀ (ls : zL) (st : zS) (h : zH), zx 157 163 ls st h = zgo 157 (zpure .iaload 164 0 [] ls st h)) ∧
  (∀ (ls : zL) (st : zS) (h : zH), zx 157 164 ls st h = zgo 157 (zpure .isub 165 0 [] ls st h)) ∧
  (∀ (ls : zL) (st : zS) (h : zH), zx 157 165 ls st h = zgo 157 (zpure .i2l 166 0 [] ls st h)) ∧
  (∀ (ls : zL) (st : zS) (h : zH), zx 157 166 ls st h = zgo 157 (zpure .ladd 167 0 [] ls st h)) ∧
  (∀ (ls : zL) (st : zS) (h : zH), zx 157 167 ls st h = zgo 157 (zpure .lastore 168 0 [] ls st h)) ∧
  (∀ (ls : zL) (st : zS) (h : zH), zx 157 168 ls st h = zgo 157 (zpure (.iinc 1 1) 171 0 [] ls st h)) ∧
  (∀ (ls : zL) (st : zS) (h : zH), zx 157 171 ls st h = zgo 157 (zpure (.goto (-73)) 174 98 [] ls st h)) ∧
  (∀ (ls : zL) (st : zS) (h : zH), zx 157 174 ls st h = zgo 157 (zpure (.aload_n 0) 175 0 [] ls st h)) ∧
  (∀ (ls : zL) (st : zS) (h : zH), zx 157 175 ls st h = zgo 157 (zpure .dup 176 0 [] ls st h)) ∧
  (∀ (ls : zL) (st : zS) (h : zH), zx 157 176 ls st h = zgo 157 (zpure (.getfield 125) 179 0 [6, 16] ls st h)) ∧
  (∀ (ls : zL) (st : zS) (h : zH), zx 157 179 ls st h = zgo 157 (zpure (.iconst 1) 180 0 [] ls st h)) ∧
  (∀ (ls : zL) (st : zS) (h : zH), zx 157 180 ls st h = zgo 157 (zpure .iadd 181 0 [] ls st h)) ∧
  (∀ (ls : zL) (st : zS) (h : zH), zx 157 181 ls st h = zgo 157 (zpure (.putfield 125) 184 0 [6, 16, 0] ls st h)) ∧
  (∀ (ls : zL) (st : zS) (h : zH), zx 157 184 ls st h = zgo 157 (zpure (.aload_n 0) 185 0 [] ls st h)) ∧
  (∀ (ls : zL) (st : zS) (h : zH), zx 157 185 ls st h = zgo 157 (zpure (.getfield 230) 188 0 [6, 30] ls st h)) ∧
  (∀ (ls : zL) (st : zS) (h : zH), zx 157 188 ls st h = zret 0 st h) :=
  ⟨zx_0 rfl, zx_0 rfl, zx_0 rfl, zx_0 rfl, zx_0 rfl, zx_0 rfl, zx_0 rfl, zx_0 rfl, zx_0 rfl, zx_0 rfl, zx_0 rfl, zx_0 rfl, zx_0 rfl, zx_1 rfl, zx_0 rfl, zx_2c rfl, zx_0 rfl, zx_0 rfl, zx_0 rfl, zx_0 rfl, zx_0 rfl, zx_0 rfl, zx_0 rfl, zx_0 rfl, zx_0 rfl, zx_0 rfl, zx_0 rfl, zx_0 rfl, zx_0 rfl, zx_0 rfl, zx_0 rfl, zx_0 rfl, zx_0 rfl, zx_0 rfl, zx_0 rfl, zx_0 rfl, zx_0 rfl, zx_0 rfl, zx_0 rfl, zx_0 rfl, zx_0 rfl, zx_0 rfl, zx_0 rfl, zx_0 rfl, zx_0 rfl, zx_0 rfl, zx_0 rfl, zx_0 rfl, zx_0 rfl, zx_0 rfl, zx_0 rfl, zx_0 rfl, zx_0 rfl, zx_0 rfl, zx_0 rfl, zx_0 rfl, zx_0 rfl, zx_0 rfl, zx_0 rfl, zx_0 rfl, zx_0 rfl, zx_0 rfl, zx_0 rfl, zx_0 rfl, zx_0 rfl, zx_0 rfl, zx_0 rfl, zx_0 rfl, zx_0 rfl, zx_0 rfl, zx_0 rfl, zx_0 rfl, zx_0 rfl, zx_0 rfl, zx_0 rfl, zx_0 rfl, zx_0 rfl, zx_0 rfl, zx_0 rfl, zx_0 rfl, zx_0 rfl, zx_0 rfl, zx_0 rfl, zx_0 rfl, zx_0 rfl, zx_0 rfl, zx_0 rfl, zx_0 rfl, zx_0 rfl, zx_0 rfl, zx_0 rfl, zx_0 rfl, zx_0 rfl, zx_0 rfl, zx_0 rfl, zx_0 rfl, zx_0 rfl, zx_0 rfl, zx_0 rfl, zx_0 rfl, zx_0 rfl, zx_0 rfl, zx_0 rfl, zx_0 rfl, zx_0 rfl, zx_0 rfl, zx_0 rfl, zx_0 rfl, zx_0 rfl, zx_0 rfl, zx_1 rfl⟩
/-- X6_today -/
theorem z158 :
  (∀ (ls : zL) (st : zS) (h : zH), zx 158 0 ls st h = zgo 158 (zpure (.aload_n 0) 1 0 [] ls st h)) ∧
  (∀ (ls : zL) (st : zS) (h : zH), zx 158 1 ls st h = zgo 158 (zpure (.iconst 0) 2 0 [] ls st h)) ∧
  (∀ (ls : zL) (st : zS) (h : zH), zx 158 2 ls st h = zgo 158 (zpure (.putfield 84) 5 0 [6, 32, 0] ls st h)) ∧
  (∀ (ls : zL) (st : zS) (h : zH), zx 158 5 ls st h = zgo 158 (zpure (.aload_n 0) 6 0 [] ls st h)) ∧
  (∀ (ls : zL) (st : zS) (h : zH), zx 158 6 ls st h = zgo 158 (zpure (.getfield 125) 9 0 [6, 16] ls st h)) ∧
  (∀ (ls : zL) (st : zS) (h : zH), zx 158 9 ls st h = zret 0 st h) :=
  ⟨zx_0 rfl, zx_0 rfl, zx_0 rfl, zx_0 rfl, zx_0 rfl, zx_1 rfl⟩
/-- X6_entries -/
theorem z159 :
  (∀ (ls : zL) (st : zS) (h : zH), zx 159 0 ls st h = zgo 159 (zpure (.aload_n 0) 1 0 [] ls st h)) ∧
  (∀ (ls : zL) (st : zS) (h : zH), zx 159 1 ls st h = zgo 159 (zpure (.iconst 0) 2 0 [] ls st h)) ∧
  (∀ (ls : zL) (st : zS) (h : zH), zx 159 2 ls st h = zgo 159 (zpure (.putfield 84) 5 0 [6, 32, 0] ls st h)) ∧
  (∀ (ls : zL) (st : zS) (h : zH), zx 159 5 ls st h = zgo 159 (zpure (.aload_n 0) 6 0 [] ls st h)) ∧
  (∀ (ls : zL) (st : zS) (h : zH), zx 159 6 ls st h = zgo 159 (zpure (.getfield 230) 9 0 [6, 30] ls st h)) ∧
  (∀ (ls : zL) (st : zS) (h : zH), zx 159 9 ls st h = zret 0 st h) :=
  ⟨zx_0 rfl, zx_0 rfl, zx_0 rfl, zx_0 rfl, zx_0 rfl, zx_1 rfl⟩
/-- X6_entryClip -/
theorem z160 :
  (∀ (ls : zL) (st : zS) (h : zH), zx 160 0 ls st h = zgo 160 (zpure (.aload_n 0) 1 0 [] ls st h)) ∧
  (∀ (ls : zL) (st : zS) (h : zH), zx 160 1 ls st h = zgo 160 (zpure (.iload_n 1) 2 0 [] ls st h)) ∧
  (∀ (ls : zL) (st : zS) (h : zH), zx 160 2 ls st h = zgo 160 (zpure (.iconst 0) 3 0 [] ls st h)) ∧
  (∀ (ls : zL) (st : zS) (h : zH), zx 160 3 ls st h = zgo 160 (zpure (.aload_n 0) 4 0 [] ls st h)) ∧
  (∀ (ls : zL) (st : zS) (h : zH), zx 160 4 ls st h = zgo 160 (zpure (.getfield 230) 7 0 [6, 30] ls st h)) ∧
  (∀ (ls : zL) (st : zS) (h : zH), zx 160 7 ls st h = zgo 160 (zpure (.iconst 1) 8 0 [] ls st h)) ∧
  (∀ (ls : zL) (st : zS) (h : zH), zx 160 8 ls st h = zgo 160 (zpure .isub 9 0 [] ls st h)) ∧
  (∀ (ls : zL) (st : zS) (h : zH), zx 160 9 ls st h = zca 160 9 12 ls 105 3 0 (ztake 3 st) h) ∧
  (∀ (ls : zL) (st : zS) (h : zH), zx 160 12 ls st h = zgo 160 (zpure (.ifCond .eq 7) 15 19 [] ls st h)) ∧
  (∀ (ls : zL) (st : zS) (h : zH), zx 160 15 ls st h = zgo 160 (zpure (.iconst 0) 16 0 [] ls st h)) ∧
  (∀ (ls : zL) (st : zS) (h : zH), zx 160 16 ls st h = zgo 160 (zpure (.goto 4) 19 20 [] ls st h)) ∧
  (∀ (ls : zL) (st : zS) (h : zH), zx 160 19 ls st h = zgo 160 (zpure (.iconst 1) 20 0 [] ls st h)) ∧
  (∀ (ls : zL) (st : zS) (h : zH), zx 160 20 ls st h = zgo 160 (zpure (.putfield 84) 23 0 [6, 32, 0] ls st h)) ∧
  (∀ (ls : zL) (st : zS) (h : zH), zx 160 23 ls st h = zgo 160 (zpure (.aload_n 0) 24 0 [] ls st h)) ∧
  (∀ (ls : zL) (st : zS) (h : zH), zx 160 24 ls st h = zgo 160 (zpure (.getfield 84) 27 0 [6, 32] ls st h)) ∧
  (∀ (ls : zL) (st : zS) (h : zH), zx 160 27 ls st h = zgo 160 (zpure (.ifCond .le 7) 30 34 [] ls st h)) ∧
  (∀ (ls : zL) (st : zS) (h : zH), zx 160 30 ls st h = zgo 160 (zpure (.iconst 0) 31 0 [] ls st h)) ∧
  (∀ (ls : zL) (st : zS) (h : zH), zx 160 31 ls st h = zgo 160 (zpure (.goto 9) 34 40 [] ls st h)) ∧
  (∀ (ls : zL) (st : zS) (h : zH), zx 160 34 ls st h = zgo 160 (zpure (.aload_n 0) 35 0 [] ls st h)) ∧
  (∀ (ls : zL) (st : zS) (h : zH), zx 160 35 ls st h = zgo 160 (zpure (.getfield 78) 38 0 [6, 28] ls st h)) ∧
  (∀ (ls : zL) (st : zS) (h : zH), zx 160 38 ls st h = zgo 160 (zpure (.iload_n 1) 39 0 [] ls st h)) ∧
  (∀ (ls : zL) (st : zS) (h : zH), zx 160 39 ls st h = zgo 160 (zpure .iaload 40 0 [] ls st h)) ∧
  (∀ (ls : zL) (st : zS) (h : zH), zx 160 40 ls st h = zret 0 st h) :=
  ⟨zx_0 rfl, zx_0 rfl, zx_0 rfl, zx_0 rfl, zx_0 rfl, zx_0 rfl, zx_0 rfl, zx_2c rfl, zx_0 rfl, zx_0 rfl, zx_0 rfl, zx_0 rfl, zx_0 rfl, zx_0 rfl, zx_0 rfl, zx_0 rfl, zx_0 rfl, zx_0 rfl, zx_0 rfl, zx_0 rfl, zx_0 rfl, zx_0 rfl, zx_1 rfl⟩
/-- X6_entryStart -/
theorem z161 :
  (∀ (ls : zL) (st : zS) (h : zH), zx 161 0 ls st h = zgo 161 (zpure (.aload_n 0) 1 0 [] ls st h)) ∧
  (∀ (ls : zL) (st : zS) (h : zH), zx 161 1 ls st h = zgo 161 (zpure (.iload_n 1) 2 0 [] ls st h)) ∧
  (∀ (ls : zL) (st : zS) (h : zH), zx 161 2 ls st h = zgo 161 (zpure (.iconst 0) 3 0 [] ls st h)) ∧
  (∀ (ls : zL) (st : zS) (h : zH), zx 161 3 ls st h = zgo 161 (zpure (.aload_n 0) 4 0 [] ls st h)) ∧
  (∀ (ls : zL) (st : zS) (h : zH), zx 161 4 ls st h = zgo 161 (zpure (.getfield 230) 7 0 [6, 30] ls st h)) ∧
  (∀ (ls : zL) (st : zS) (h : zH), zx 161 7 ls st h = zgo 161 (zpure (.iconst 1) 8 0 [] ls st h)) ∧
  (∀ (ls : zL) (st : zS) (h : zH), zx 161 8 ls st h = zgo 161 (zpure .isub 9 0 [] ls st h)) ∧
  (∀ (ls : zL) (st : zS) (h : zH), zx 161 9 ls st h = zca 161 9 12 ls 105 3 0 (ztake 3 st) h) ∧
  (∀ (ls : zL) (st : zS) (h : zH), zx 161 12 ls st h = zgo 161 (zpure (.ifCond .eq 7) 15 19 [] ls st h)) ∧
  (∀ (ls : zL) (st : zS) (h : zH), zx 161 15 ls st h = zgo 161 (zpure (.iconst 0) 16 0 [] ls st h)) ∧
  (∀ (ls : zL) (st : zS) (h : zH), zx 161 16 ls st h = zgo 161 (zpure (.goto 4) 19 20 [] ls st h)) ∧
  (∀ (ls : zL) (st : zS) (h : zH), zx 161 19 ls st h = zgo 161 (zpure (.iconst 1) 20 0 [] ls st h)) ∧
  (∀ (ls : zL) (st : zS) (h : zH), zx 161 20 ls st h = zgo 161 (zpure (.putfield 84) 23 0 [6, 32, 0] ls st h)) ∧
  (∀ (ls : zL) (st : zS) (h : zH), zx 161 23 ls st h = zgo 161 (zpure (.aload_n 0) 24 0 [] ls st h)) ∧
  (∀ (ls : zL) (st : zS) (h : zH), zx 161 24 ls st h = zgo 161 (zpure (.getfield 84) 27 0 [6, 32] ls st h)) ∧
  (∀ (ls : zL) (st : zS) (h : zH), zx 161 27 ls st h = zgo 161 (zpure (.ifCond .le 7) 30 34 [] ls st h)) ∧
  (∀ (ls : zL) (st : zS) (h : zH), zx 161 30 ls st h = zgo 161 (zpure (.iconst 0) 31 0 [] ls st h)) ∧
  (∀ (ls : zL) (st : zS) (h : zH), zx 161 31 ls st h = zgo 161 (zpure (.goto 9) 34 40 [] ls st h)) ∧
  (∀ (ls : zL) (st : zS) (h : zH), zx 161 34 ls st h = zgo 161 (zpure (.aload_n 0) 35 0 [] ls st h)) ∧
  (∀ (ls : zL) (st : zS) (h : zH), zx 161 35 ls st h = zgo 161 (zpure (.getfield 81) 38 0 [6, 29] ls st h)) ∧
  (∀ (ls : zL) (st : zS) (h : zH), zx 161 38 ls st h = zgo 161 (zpure (.iload_n 1) 39 0 [] ls st h)) ∧
  (∀ (ls : zL) (st : zS) (h : zH), zx 161 39 ls st h = zgo 161 (zpure .iaload 40 0 [] ls st h)) ∧
  (∀ (ls : zL) (st : zS) (h : zH), zx 161 40 ls st h = zret 0 st h) :=
  ⟨zx_0 rfl, zx_0 rfl, zx_0 rfl, zx_0 rfl, zx_0 rfl, zx_0 rfl, zx_0 rfl, zx_2c rfl, zx_0 rfl, zx_0 rfl, zx_0 rfl, zx_0 rfl, zx_0 rfl, zx_0 rfl, zx_0 rfl, zx_0 rfl, zx_0 rfl, zx_0 rfl, zx_0 rfl, zx_0 rfl, zx_0 rfl, zx_0 rfl, zx_1 rfl⟩
theorem z162_35 : ∀ (ls : zL) (st : zS) (h : zH), zx 162 35 ls st h = zgo 162 (zpure (.iload_n 3) 36 0 [] ls st h) := zx_0 rfl
theorem z162_42 : ∀ (ls : zL) (st : zS) (h : zH), zx 162 42 ls st h = zgo 162 (zpure (.iload_n 2) 43 0 [] ls st h) := zx_0 rfl
/-- X6_apart -/
theorem z162 :
  (∀ (ls : zL) (st : zS) (h : zH), zx 162 0 ls st h = zgo 162 (zpure (.aload_n 0) 1 0 [] ls st h)) ∧
  (∀ (ls : zL) (st : zS) (h : zH), zx 162 1 ls st h = zgo 162 (zpure (.aload_n 0) 2 0 [] ls st h)) ∧
  (∀ (ls : zL) (st : zS) (h : zH), zx 162 2 ls st h = zgo 162 (zpure (.getfield 233) 5 0 [6, 31] ls st h)) ∧
  (∀ (ls : zL) (st : zS) (h : zH), zx 162 5 ls st h = zgo 162 (zpure (.ifCond .eq 7) 8 12 [] ls st h)) ∧
  (∀ (ls : zL) (st : zS) (h : zH), zx 162 8 ls st h = zgo 162 (zpure (.iconst 0) 9 0 [] ls st h)) ∧
  (∀ (ls : zL) (st : zS) (h : zH), zx 162 9 ls st h = zgo 162 (zpure (.goto 4) 12 13 [] ls st h)) ∧
  (∀ (ls : zL) (st : zS) (h : zH), zx 162 12 ls st h = zgo 162 (zpure (.iconst 1) 13 0 [] ls st h)) ∧
  (∀ (ls : zL) (st : zS) (h : zH), zx 162 13 ls st h = zgo 162 (zpure (.putfield 84) 16 0 [6, 32, 0] ls st h)) ∧
  (∀ (ls : zL) (st : zS) (h : zH), zx 162 16 ls st h = zgo 162 (zpure (.aload_n 0) 17 0 [] ls st h)) ∧
  (∀ (ls : zL) (st : zS) (h : zH), zx 162 17 ls st h = zgo 162 (zpure (.getfield 84) 20 0 [6, 32] ls st h)) ∧
  (∀ (ls : zL) (st : zS) (h : zH), zx 162 20 ls st h = zgo 162 (zpure (.ifCond .le 5) 23 25 [] ls st h)) ∧
  (∀ (ls : zL) (st : zS) (h : zH), zx 162 23 ls st h = zgo 162 (zpure (.iconst 0) 24 0 [] ls st h)) ∧
  (∀ (ls : zL) (st : zS) (h : zH), zx 162 24 ls st h = zret 0 st h) ∧
  (∀ (ls : zL) (st : zS) (h : zH), zx 162 25 ls st h = zgo 162 (zpure (.aload_n 0) 26 0 [] ls st h)) ∧
  (∀ (ls : zL) (st : zS) (h : zH), zx 162 26 ls st h = zca 162 26 29 ls 138 3 7 (ztake 1 st) h) ∧
  (∀ (ls : zL) (st : zS) (h : zH), zx 162 29 ls st h = zgo 162 (zpure (.iconst 0) 30 0 [] ls st h)) ∧
  (∀ (ls : zL) (st : zS) (h : zH), zx 162 30 ls st h = zgo 162 (zpure (.istore_n 1) 31 0 [] ls st h)) ∧
  (∀ (ls : zL) (st : zS) (h : zH), zx 162 31 ls st h = zgo 162 (zpure (.iconst 0) 32 0 [] ls st h)) ∧
  (∀ (ls : zL) (st : zS) (h : zH), zx 162 32 ls st h = zgo 162 (zpure (.istore_n 2) 33 0 [] ls st h)) ∧
  (∀ (ls : zL) (st : zS) (h : zH), zx 162 33 ls st h = zgo 162 (zpure (.iconst 0) 34 0 [] ls st h)) ∧
  (∀ (ls : zL) (st : zS) (h : zH), zx 162 34 ls st h = zgo 162 (zpure (.istore_n 3) 35 0 [] ls st h)) ∧
  (∀ (ls : zL) (st : zS) (h : zH), zx 162 36 ls st h = zgo 162 (zpure (.sipush 3600) 39 0 [] ls st h)) ∧
  (∀ (ls : zL) (st : zS) (h : zH), zx 162 39 ls st h = zgo 162 (zpure (.if_icmp .ge 59) 42 98 [] ls st h)) ∧
  (∀ (ls : zL) (st : zS) (h : zH), zx 162 43 ls st h = zgo 162 (zpure (.iconst 1) 44 0 [] ls st h)) ∧
  (∀ (ls : zL) (st : zS) (h : zH), zx 162 44 ls st h = zgo 162 (zpure .iadd 45 0 [] ls st h)) ∧
  (∀ (ls : zL) (st : zS) (h : zH), zx 162 45 ls st h = zgo 162 (zpure (.aload_n 0) 46 0 [] ls st h)) ∧
  (∀ (ls : zL) (st : zS) (h : zH), zx 162 46 ls st h = zgo 162 (zpure (.getfield 230) 49 0 [6, 30] ls st h)) ∧
  (∀ (ls : zL) (st : zS) (h : zH), zx 162 49 ls st h = zgo 162 (zpure (.if_icmp .ge 21) 52 70 [] ls st h)) ∧
  (∀ (ls : zL) (st : zS) (h : zH), zx 162 52 ls st h = zgo 162 (zpure (.aload_n 0) 53 0 [] ls st h)) ∧
  (∀ (ls : zL) (st : zS) (h : zH), zx 162 53 ls st h = zgo 162 (zpure (.getfield 81) 56 0 [6, 29] ls st h)) ∧
  (∀ (ls : zL) (st : zS) (h : zH), zx 162 56 ls st h = zgo 162 (zpure (.iload_n 2) 57 0 [] ls st h)) ∧
  (∀ (ls : zL) (st : zS) (h : zH), zx 162 57 ls st h = zgo 162 (zpure (.iconst 1) 58 0 [] ls st h)) ∧
  (∀ (ls : zL) (st : zS) (h : zH), zx 162 58 ls st h = zgo 162 (zpure .iadd 59 0 [] ls st h)) ∧
  (∀ (ls : zL) (st : zS) (h : zH), zx 162 59 ls st h = zgo 162 (zpure .iaload 60 0 [] ls st h)) ∧
  (∀ (ls : zL) (st : zS) (h : zH), zx 162 60 ls st h = zgo 162 (zpure (.iload_n 3) 61 0 [] ls st h)) ∧
  (∀ (ls : zL) (st : zS) (h : zH), zx 162 61 ls st h = zgo 162 (zpure (.if_icmp .gt 9) 64 70 [] ls st h)) ∧
  (∀ (ls : zL) (st : zS) (h : zH), zx 162 64 ls st h = zgo 162 (zpure (.iinc 2 1) 67 0 [] ls st h)) ∧
  (∀ (ls : zL) (st : zS) (h : zH), zx 162 67 ls st h = zgo 162 (zpure (.goto (-25)) 70 42 [] ls st h)) ∧
  (∀ (ls : zL) (st : zS) (h : zH), zx 162 70 ls st h = zgo 162 (zpure (.iload_n 1) 71 0 [] ls st h)) ∧
  (∀ (ls : zL) (st : zS) (h : zH), zx 162 71 ls st h = zgo 162 (zpure (.aload_n 0) 72 0 [] ls st h)) ∧
  (∀ (ls : zL) (st : zS) (h : zH), zx 162 72 ls st h = zgo 162 (zpure (.getfield 78) 75 0 [6, 28] ls st h)) ∧
  (∀ (ls : zL) (st : zS) (h : zH), zx 162 75 ls st h = zgo 162 (zpure (.iload_n 2) 76 0 [] ls st h)) ∧
  (∀ (ls : zL) (st : zS) (h : zH), zx 162 76 ls st h = zgo 162 (zpure .iaload 77 0 [] ls st h)) ∧
  (∀ (ls : zL) (st : zS) (h : zH), zx 162 77 ls st h = zgo 162 (zpure (.aload_n 0) 78 0 [] ls st h)) ∧
  (∀ (ls : zL) (st : zS) (h : zH), zx 162 78 ls st h = zgo 162 (zpure (.iload_n 3) 79 0 [] ls st h)) ∧
  (∀ (ls : zL) (st : zS) (h : zH), zx 162 79 ls st h = zca 162 79 82 ls 148 3 7 (ztake 2 st) h) ∧
  (∀ (ls : zL) (st : zS) (h : zH), zx 162 82 ls st h = zgo 162 (zpure (.if_icmp .eq 7) 85 89 [] ls st h)) ∧
  (∀ (ls : zL) (st : zS) (h : zH), zx 162 85 ls st h = zgo 162 (zpure (.iconst 1) 86 0 [] ls st h)) ∧
  (∀ (ls : zL) (st : zS) (h : zH), zx 162 86 ls st h = zgo 162 (zpure (.goto 4) 89 90 [] ls st h)) ∧
  (∀ (ls : zL) (st : zS) (h : zH), zx 162 89 ls st h = zgo 162 (zpure (.iconst 0) 90 0 [] ls st h)) ∧
  (∀ (ls : zL) (st : zS) (h : zH), zx 162 90 ls st h = zgo 162 (zpure .iadd 91 0 [] ls st h)) ∧
  (∀ (ls : zL) (st : zS) (h : zH), zx 162 91 ls st h = zgo 162 (zpure (.istore_n 1) 92 0 [] ls st h)) ∧
  (∀ (ls : zL) (st : zS) (h : zH), zx 162 92 ls st h = zgo 162 (zpure (.iinc 3 1) 95 0 [] ls st h)) ∧
  (∀ (ls : zL) (st : zS) (h : zH), zx 162 95 ls st h = zgo 162 (zpure (.goto (-60)) 98 35 [] ls st h)) ∧
  (∀ (ls : zL) (st : zS) (h : zH), zx 162 98 ls st h = zgo 162 (zpure (.iload_n 1) 99 0 [] ls st h)) ∧
  (∀ (ls : zL) (st : zS) (h : zH), zx 162 99 ls st h = zret 0 st h) :=
  ⟨zx_0 rfl, zx_0 rfl, zx_0 rfl, zx_0 rfl, zx_0 rfl, zx_0 rfl, zx_0 rfl, zx_0 rfl, zx_0 rfl, zx_0 rfl, zx_0 rfl, zx_0 rfl, zx_1 rfl, zx_0 rfl, zx_2c rfl, zx_0 rfl, zx_0 rfl, zx_0 rfl, zx_0 rfl, zx_0 rfl, zx_0 rfl, zx_0 rfl, zx_0 rfl, zx_0 rfl, zx_0 rfl, zx_0 rfl, zx_0 rfl, zx_0 rfl, zx_0 rfl, zx_0 rfl, zx_0 rfl, zx_0 rfl, zx_0 rfl, zx_0 rfl, zx_0 rfl, zx_0 rfl, zx_0 rfl, zx_0 rfl, zx_0 rfl, zx_0 rfl, zx_0 rfl, zx_0 rfl, zx_0 rfl, zx_0 rfl, zx_0 rfl, zx_2c rfl, zx_0 rfl, zx_0 rfl, zx_0 rfl, zx_0 rfl, zx_0 rfl, zx_0 rfl, zx_0 rfl, zx_0 rfl, zx_0 rfl, zx_1 rfl⟩
/-- X6_aired -/
theorem z163 :
  (∀ (ls : zL) (st : zS) (h : zH), zx 163 0 ls st h = zgo 163 (zpure (.aload_n 0) 1 0 [] ls st h)) ∧
  (∀ (ls : zL) (st : zS) (h : zH), zx 163 1 ls st h = zgo 163 (zpure (.aload_n 0) 2 0 [] ls st h)) ∧
  (∀ (ls : zL) (st : zS) (h : zH), zx 163 2 ls st h = zgo 163 (zpure (.iload_n 1) 3 0 [] ls st h)) ∧
  (∀ (ls : zL) (st : zS) (h : zH), zx 163 3 ls st h = zca 163 3 6 ls 110 2 7 (ztake 2 st) h) ∧
  (∀ (ls : zL) (st : zS) (h : zH), zx 163 6 ls st h = zgo 163 (zpure (.ifCond .eq 7) 9 13 [] ls st h)) ∧
  (∀ (ls : zL) (st : zS) (h : zH), zx 163 9 ls st h = zgo 163 (zpure (.iconst 0) 10 0 [] ls st h)) ∧
  (∀ (ls : zL) (st : zS) (h : zH), zx 163 10 ls st h = zgo 163 (zpure (.goto 4) 13 14 [] ls st h)) ∧
  (∀ (ls : zL) (st : zS) (h : zH), zx 163 13 ls st h = zgo 163 (zpure (.iconst 1) 14 0 [] ls st h)) ∧
  (∀ (ls : zL) (st : zS) (h : zH), zx 163 14 ls st h = zgo 163 (zpure (.putfield 84) 17 0 [6, 32, 0] ls st h)) ∧
  (∀ (ls : zL) (st : zS) (h : zH), zx 163 17 ls st h = zgo 163 (zpure (.aload_n 0) 18 0 [] ls st h)) ∧
  (∀ (ls : zL) (st : zS) (h : zH), zx 163 18 ls st h = zgo 163 (zpure (.getfield 84) 21 0 [6, 32] ls st h)) ∧
  (∀ (ls : zL) (st : zS) (h : zH), zx 163 21 ls st h = zgo 163 (zpure (.ifCond .le 7) 24 28 [] ls st h)) ∧
  (∀ (ls : zL) (st : zS) (h : zH), zx 163 24 ls st h = zgo 163 (zpure (.lconst 0) 25 0 [] ls st h)) ∧
  (∀ (ls : zL) (st : zS) (h : zH), zx 163 25 ls st h = zgo 163 (zpure (.goto 9) 28 34 [] ls st h)) ∧
  (∀ (ls : zL) (st : zS) (h : zH), zx 163 28 ls st h = zgo 163 (zpure (.aload_n 0) 29 0 [] ls st h)) ∧
  (∀ (ls : zL) (st : zS) (h : zH), zx 163 29 ls st h = zgo 163 (zpure (.getfield 29) 32 0 [6, 6] ls st h)) ∧
  (∀ (ls : zL) (st : zS) (h : zH), zx 163 32 ls st h = zgo 163 (zpure (.iload_n 1) 33 0 [] ls st h)) ∧
  (∀ (ls : zL) (st : zS) (h : zH), zx 163 33 ls st h = zgo 163 (zpure .laload 34 0 [] ls st h)) ∧
  (∀ (ls : zL) (st : zS) (h : zH), zx 163 34 ls st h = zret 4 st h) :=
  ⟨zx_0 rfl, zx_0 rfl, zx_0 rfl, zx_2c rfl, zx_0 rfl, zx_0 rfl, zx_0 rfl, zx_0 rfl, zx_0 rfl, zx_0 rfl, zx_0 rfl, zx_0 rfl, zx_0 rfl, zx_0 rfl, zx_0 rfl, zx_0 rfl, zx_0 rfl, zx_0 rfl, zx_1 rfl⟩
/-- Jx4a65c_init_da8c8 -/
theorem z164 :
  (∀ (ls : zL) (st : zS) (h : zH), zx 164 0 ls st h = zgo 164 (zpure (.aload_n 0) 1 0 [] ls st h)) ∧
  (∀ (ls : zL) (st : zS) (h : zH), zx 164 1 ls st h = zca 164 1 4 ls 186 1 100 (ztake 1 st) h) ∧
  (∀ (ls : zL) (st : zS) (h : zH), zx 164 4 ls st h = zgo 164 (zpure (.aload_n 0) 5 0 [] ls st h)) ∧
  (∀ (ls : zL) (st : zS) (h : zH), zx 164 5 ls st h = zgo 164 (zpure (.getstatic 39) 8 0 [1] ls st h)) ∧
  (∀ (ls : zL) (st : zS) (h : zH), zx 164 8 ls st h = zgo 164 (zpure (.putfield 9) 11 0 [7, 1, 7] ls st h)) ∧
  (∀ (ls : zL) (st : zS) (h : zH), zx 164 11 ls st h = zret 8 st h) :=
  ⟨zx_0 rfl, zx_2c rfl, zx_0 rfl, zx_0 rfl, zx_0 rfl, zx_1 rfl⟩
/-- Jx4a65c_add_9ea2d -/
theorem z165 :
  (∀ (ls : zL) (st : zS) (h : zH), zx 165 0 ls st h = zgo 165 (zpure (.aload_n 0) 1 0 [] ls st h)) ∧
  (∀ (ls : zL) (st : zS) (h : zH), zx 165 1 ls st h = zgo 165 (zpure .dup 2 0 [] ls st h)) ∧
  (∀ (ls : zL) (st : zS) (h : zH), zx 165 2 ls st h = zgo 165 (zpure (.getfield 63) 5 0 [7, 0] ls st h)) ∧
  (∀ (ls : zL) (st : zS) (h : zH), zx 165 5 ls st h = zgo 165 (zpure (.iconst 1) 6 0 [] ls st h)) ∧
  (∀ (ls : zL) (st : zS) (h : zH), zx 165 6 ls st h = zgo 165 (zpure .iadd 7 0 [] ls st h)) ∧
  (∀ (ls : zL) (st : zS) (h : zH), zx 165 7 ls st h = zgo 165 (zpure (.putfield 63) 10 0 [7, 0, 0] ls st h)) ∧
  (∀ (ls : zL) (st : zS) (h : zH), zx 165 10 ls st h = zgo 165 (zpure (.aload_n 0) 11 0 [] ls st h)) ∧
  (∀ (ls : zL) (st : zS) (h : zH), zx 165 11 ls st h = zgo 165 (zpure (.aload_n 1) 12 0 [] ls st h)) ∧
  (∀ (ls : zL) (st : zS) (h : zH), zx 165 12 ls st h = zgo 165 (zpure (.aload_n 0) 13 0 [] ls st h)) ∧
  (∀ (ls : zL) (st : zS) (h : zH), zx 165 13 ls st h = zgo 165 (zpure (.getfield 9) 16 0 [7, 1] ls st h)) ∧
  (∀ (ls : zL) (st : zS) (h : zH), zx 165 16 ls st h = zgo 165 (zpure (.aload_n 0) 17 0 [] ls st h)) ∧
  (∀ (ls : zL) (st : zS) (h : zH), zx 165 17 ls st h = zgo 165 (zpure (.getfield 48) 20 0 [7, 2] ls st h)) ∧
  (∀ (ls : zL) (st : zS) (h : zH), zx 165 20 ls st h = zca 165 20 23 ls 166 4 8 (ztake 4 st) h) ∧
  (∀ (ls : zL) (st : zS) (h : zH), zx 165 23 ls st h = zgo 165 (zpure (.iconst 1) 24 0 [] ls st h)) ∧
  (∀ (ls : zL) (st : zS) (h : zH), zx 165 24 ls st h = zret 1 st h) :=
  ⟨zx_0 rfl, zx_0 rfl, zx_0 rfl, zx_0 rfl, zx_0 rfl, zx_0 rfl, zx_0 rfl, zx_0 rfl, zx_0 rfl, zx_0 rfl, zx_0 rfl, zx_0 rfl, zx_2c rfl, zx_0 rfl, zx_1 rfl⟩
/-- Jx4a65c_add_72be8 -/
theorem z166 :
  (∀ (ls : zL) (st : zS) (h : zH), zx 166 0 ls st h = zgo 166 (zpure (.iload_n 3) 1 0 [] ls st h)) ∧
  (∀ (ls : zL) (st : zS) (h : zH), zx 166 1 ls st h = zgo 166 (zpure (.aload_n 2) 2 0 [] ls st h)) ∧
  (∀ (ls : zL) (st : zS) (h : zH), zx 166 2 ls st h = zgo 166 (zpure .arraylength 3 0 [] ls st h)) ∧
  (∀ (ls : zL) (st : zS) (h : zH), zx 166 3 ls st h = zgo 166 (zpure (.if_icmp .ne 8) 6 11 [] ls st h)) ∧
  (∀ (ls : zL) (st : zS) (h : zH), zx 166 6 ls st h = zgo 166 (zpure (.aload_n 0) 7 0 [] ls st h)) ∧
  (∀ (ls : zL) (st : zS) (h : zH), zx 166 7 ls st h = zca 166 7 10 ls 170 1 8 (ztake 1 st) h) ∧
  (∀ (ls : zL) (st : zS) (h : zH), zx 166 10 ls st h = zgo 166 (zpure (.astore_n 2) 11 0 [] ls st h)) ∧
  (∀ (ls : zL) (st : zS) (h : zH), zx 166 11 ls st h = zgo 166 (zpure (.aload_n 2) 12 0 [] ls st h)) ∧
  (∀ (ls : zL) (st : zS) (h : zH), zx 166 12 ls st h = zgo 166 (zpure (.iload_n 3) 13 0 [] ls st h)) ∧
  (∀ (ls : zL) (st : zS) (h : zH), zx 166 13 ls st h = zgo 166 (zpure (.aload_n 1) 14 0 [] ls st h)) ∧
  (∀ (ls : zL) (st : zS) (h : zH), zx 166 14 ls st h = zgo 166 (zpure .aastore 15 0 [] ls st h)) ∧
  (∀ (ls : zL) (st : zS) (h : zH), zx 166 15 ls st h = zgo 166 (zpure (.aload_n 0) 16 0 [] ls st h)) ∧
  (∀ (ls : zL) (st : zS) (h : zH), zx 166 16 ls st h = zgo 166 (zpure (.iload_n 3) 17 0 [] ls st h)) ∧
  (∀ (ls : zL) (st : zS) (h : zH), zx 166 17 ls st h = zgo 166 (zpure (.iconst 1) 18 0 [] ls st h)) ∧
  (∀ (ls : zL) (st : zS) (h : zH), zx 166 18 ls st h = zgo 166 (zpure .iadd 19 0 [] ls st h)) ∧
  (∀ (ls : zL) (st : zS) (h : zH), zx 166 19 ls st h = zgo 166 (zpure (.putfield 48) 22 0 [7, 2, 0] ls st h)) ∧
  (∀ (ls : zL) (st : zS) (h : zH), zx 166 22 ls st h = zret 8 st h) :=
  ⟨zx_0 rfl, zx_0 rfl, zx_0 rfl, zx_0 rfl, zx_0 rfl, zx_2c rfl, zx_0 rfl, zx_0 rfl, zx_0 rfl, zx_0 rfl, zx_0 rfl, zx_0 rfl, zx_0 rfl, zx_0 rfl, zx_0 rfl, zx_0 rfl, zx_1 rfl⟩
/-- Jx4a65c_add_7a177 -/
theorem z167 :
  (∀ (ls : zL) (st : zS) (h : zH), zx 167 0 ls st h = zgo 167 (zpure (.aload_n 0) 1 0 [] ls st h)) ∧
  (∀ (ls : zL) (st : zS) (h : zH), zx 167 1 ls st h = zgo 167 (zpure (.iload_n 1) 2 0 [] ls st h)) ∧
  (∀ (ls : zL) (st : zS) (h : zH), zx 167 2 ls st h = zca 167 2 5 ls 168 2 8 (ztake 2 st) h) ∧
  (∀ (ls : zL) (st : zS) (h : zH), zx 167 5 ls st h = zgo 167 (zpure (.aload_n 0) 6 0 [] ls st h)) ∧
  (∀ (ls : zL) (st : zS) (h : zH), zx 167 6 ls st h = zgo 167 (zpure .dup 7 0 [] ls st h)) ∧
  (∀ (ls : zL) (st : zS) (h : zH), zx 167 7 ls st h = zgo 167 (zpure (.getfield 63) 10 0 [7, 0] ls st h)) ∧
  (∀ (ls : zL) (st : zS) (h : zH), zx 167 10 ls st h = zgo 167 (zpure (.iconst 1) 11 0 [] ls st h)) ∧
  (∀ (ls : zL) (st : zS) (h : zH), zx 167 11 ls st h = zgo 167 (zpure .iadd 12 0 [] ls st h)) ∧
  (∀ (ls : zL) (st : zS) (h : zH), zx 167 12 ls st h = zgo 167 (zpure (.putfield 63) 15 0 [7, 0, 0] ls st h)) ∧
  (∀ (ls : zL) (st : zS) (h : zH), zx 167 15 ls st h = zgo 167 (zpure (.aload_n 0) 16 0 [] ls st h)) ∧
  (∀ (ls : zL) (st : zS) (h : zH), zx 167 16 ls st h = zgo 167 (zpure (.getfield 48) 19 0 [7, 2] ls st h)) ∧
  (∀ (ls : zL) (st : zS) (h : zH), zx 167 19 ls st h = zgo 167 (zpure .dup 20 0 [] ls st h)) ∧
  (∀ (ls : zL) (st : zS) (h : zH), zx 167 20 ls st h = zgo 167 (zpure (.istore_n 3) 21 0 [] ls st h)) ∧
  (∀ (ls : zL) (st : zS) (h : zH), zx 167 21 ls st h = zgo 167 (zpure (.aload_n 0) 22 0 [] ls st h)) ∧
  (∀ (ls : zL) (st : zS) (h : zH), zx 167 22 ls st h = zgo 167 (zpure (.getfield 9) 25 0 [7, 1] ls st h)) ∧
  (∀ (ls : zL) (st : zS) (h : zH), zx 167 25 ls st h = zgo 167 (zpure .dup 26 0 [] ls st h)) ∧
  (∀ (ls : zL) (st : zS) (h : zH), zx 167 26 ls st h = zgo 167 (zpure (.astore 4) 28 0 [] ls st h)) ∧
  (∀ (ls : zL) (st : zS) (h : zH), zx 167 28 ls st h = zgo 167 (zpure .arraylength 29 0 [] ls st h)) ∧
  (∀ (ls : zL) (st : zS) (h : zH), zx 167 29 ls st h = zgo 167 (zpure (.if_icmp .ne 9) 32 38 [] ls st h)) ∧
  (∀ (ls : zL) (st : zS) (h : zH), zx 167 32 ls st h = zgo 167 (zpure (.aload_n 0) 33 0 [] ls st h)) ∧
  (∀ (ls : zL) (st : zS) (h : zH), zx 167 33 ls st h = zca 167 33 36 ls 170 1 8 (ztake 1 st) h) ∧
  (∀ (ls : zL) (st : zS) (h : zH), zx 167 36 ls st h = zgo 167 (zpure (.astore 4) 38 0 [] ls st h)) ∧
  (∀ (ls : zL) (st : zS) (h : zH), zx 167 38 ls st h = zgo 167 (zpure (.aload 4) 40 0 [] ls st h)) ∧
  (∀ (ls : zL) (st : zS) (h : zH), zx 167 40 ls st h = zgo 167 (zpure (.iload_n 1) 41 0 [] ls st h)) ∧
  (∀ (ls : zL) (st : zS) (h : zH), zx 167 41 ls st h = zgo 167 (zpure (.aload 4) 43 0 [] ls st h)) ∧
  (∀ (ls : zL) (st : zS) (h : zH), zx 167 43 ls st h = zgo 167 (zpure (.iload_n 1) 44 0 [] ls st h)) ∧
  (∀ (ls : zL) (st : zS) (h : zH), zx 167 44 ls st h = zgo 167 (zpure (.iconst 1) 45 0 [] ls st h)) ∧
  (∀ (ls : zL) (st : zS) (h : zH), zx 167 45 ls st h = zgo 167 (zpure .iadd 46 0 [] ls st h)) ∧
  (∀ (ls : zL) (st : zS) (h : zH), zx 167 46 ls st h = zgo 167 (zpure (.iload_n 3) 47 0 [] ls st h)) ∧
  (∀ (ls : zL) (st : zS) (h : zH), zx 167 47 ls st h = zgo 167 (zpure (.iload_n 1) 48 0 [] ls st h)) ∧
  (∀ (ls : zL) (st : zS) (h : zH), zx 167 48 ls st h = zgo 167 (zpure .isub 49 0 [] ls st h)) ∧
  (∀ (ls : zL) (st : zS) (h : zH), zx 167 49 ls st h = zgo 167 (zpure (.invokestatic 112) 52 0 [4] ls st h)) ∧
  (∀ (ls : zL) (st : zS) (h : zH), zx 167 52 ls st h = zgo 167 (zpure (.aload 4) 54 0 [] ls st h)) ∧
  (∀ (ls : zL) (st : zS) (h : zH), zx 167 54 ls st h = zgo 167 (zpure (.iload_n 1) 55 0 [] ls st h)) ∧
  (∀ (ls : zL) (st : zS) (h : zH), zx 167 55 ls st h = zgo 167 (zpure (.aload_n 2) 56 0 [] ls st h)) ∧
  (∀ (ls : zL) (st : zS) (h : zH), zx 167 56 ls st h = zgo 167 (zpure .aastore 57 0 [] ls st h)) ∧
  (∀ (ls : zL) (st : zS) (h : zH), zx 167 57 ls st h = zgo 167 (zpure (.aload_n 0) 58 0 [] ls st h)) ∧
  (∀ (ls : zL) (st : zS) (h : zH), zx 167 58 ls st h = zgo 167 (zpure (.iload_n 3) 59 0 [] ls st h)) ∧
  (∀ (ls : zL) (st : zS) (h : zH), zx 167 59 ls st h = zgo 167 (zpure (.iconst 1) 60 0 [] ls st h)) ∧
  (∀ (ls : zL) (st : zS) (h : zH), zx 167 60 ls st h = zgo 167 (zpure .iadd 61 0 [] ls st h)) ∧
  (∀ (ls : zL) (st : zS) (h : zH), zx 167 61 ls st h = zgo 167 (zpure (.putfield 48) 64 0 [7, 2, 0] ls st h)) ∧
  (∀ (ls : zL) (st : zS) (h : zH), zx 167 64 ls st h = zret 8 st h) :=
  ⟨zx_0 rfl, zx_0 rfl, zx_2c rfl, zx_0 rfl, zx_0 rfl, zx_0 rfl, zx_0 rfl, zx_0 rfl, zx_0 rfl, zx_0 rfl, zx_0 rfl, zx_0 rfl, zx_0 rfl, zx_0 rfl, zx_0 rfl, zx_0 rfl, zx_0 rfl, zx_0 rfl, zx_0 rfl, zx_0 rfl, zx_2c rfl, zx_0 rfl, zx_0 rfl, zx_0 rfl, zx_0 rfl, zx_0 rfl, zx_0 rfl, zx_0 rfl, zx_0 rfl, zx_0 rfl, zx_0 rfl, zx_0 rfl, zx_0 rfl, zx_0 rfl, zx_0 rfl, zx_0 rfl, zx_0 rfl, zx_0 rfl, zx_0 rfl, zx_0 rfl, zx_0 rfl, zx_1 rfl⟩
/-- Jx4a65c_rangeCheckForAdd_d00df -/
theorem z168 :
  (∀ (ls : zL) (st : zS) (h : zH), zx 168 0 ls st h = zgo 168 (zpure (.iload_n 1) 1 0 [] ls st h)) ∧
  (∀ (ls : zL) (st : zS) (h : zH), zx 168 1 ls st h = zgo 168 (zpure (.aload_n 0) 2 0 [] ls st h)) ∧
  (∀ (ls : zL) (st : zS) (h : zH), zx 168 2 ls st h = zgo 168 (zpure (.getfield 48) 5 0 [7, 2] ls st h)) ∧
  (∀ (ls : zL) (st : zS) (h : zH), zx 168 5 ls st h = zgo 168 (zpure (.if_icmp .gt 7) 8 12 [] ls st h)) ∧
  (∀ (ls : zL) (st : zS) (h : zH), zx 168 8 ls st h = zgo 168 (zpure (.iload_n 1) 9 0 [] ls st h)) ∧
  (∀ (ls : zL) (st : zS) (h : zH), zx 168 9 ls st h = zgo 168 (zpure (.ifCond .ge 16) 12 25 [] ls st h)) ∧
  (∀ (ls : zL) (st : zS) (h : zH), zx 168 25 ls st h = zret 8 st h) :=
  ⟨zx_0 rfl, zx_0 rfl, zx_0 rfl, zx_0 rfl, zx_0 rfl, zx_0 rfl, zx_1 rfl⟩
/-- Jx4a65c_grow_92f84 -/
theorem z169 :
  (∀ (ls : zL) (st : zS) (h : zH), zx 169 0 ls st h = zgo 169 (zpure (.aload_n 0) 1 0 [] ls st h)) ∧
  (∀ (ls : zL) (st : zS) (h : zH), zx 169 1 ls st h = zgo 169 (zpure (.getfield 9) 4 0 [7, 1] ls st h)) ∧
  (∀ (ls : zL) (st : zS) (h : zH), zx 169 4 ls st h = zgo 169 (zpure .arraylength 5 0 [] ls st h)) ∧
  (∀ (ls : zL) (st : zS) (h : zH), zx 169 5 ls st h = zgo 169 (zpure (.istore_n 2) 6 0 [] ls st h)) ∧
  (∀ (ls : zL) (st : zS) (h : zH), zx 169 6 ls st h = zgo 169 (zpure (.iload_n 2) 7 0 [] ls st h)) ∧
  (∀ (ls : zL) (st : zS) (h : zH), zx 169 7 ls st h = zgo 169 (zpure (.ifCond .gt 13) 10 20 [] ls st h)) ∧
  (∀ (ls : zL) (st : zS) (h : zH), zx 169 10 ls st h = zgo 169 (zpure (.aload_n 0) 11 0 [] ls st h)) ∧
  (∀ (ls : zL) (st : zS) (h : zH), zx 169 11 ls st h = zgo 169 (zpure (.getfield 9) 14 0 [7, 1] ls st h)) ∧
  (∀ (ls : zL) (st : zS) (h : zH), zx 169 14 ls st h = zgo 169 (zpure (.getstatic 39) 17 0 [1] ls st h)) ∧
  (∀ (ls : zL) (st : zS) (h : zH), zx 169 17 ls st h = zgo 169 (zpure (.if_acmp .eq 28) 20 45 [] ls st h)) ∧
  (∀ (ls : zL) (st : zS) (h : zH), zx 169 20 ls st h = zgo 169 (zpure (.iload_n 2) 21 0 [] ls st h)) ∧
  (∀ (ls : zL) (st : zS) (h : zH), zx 169 21 ls st h = zgo 169 (zpure (.iload_n 1) 22 0 [] ls st h)) ∧
  (∀ (ls : zL) (st : zS) (h : zH), zx 169 22 ls st h = zgo 169 (zpure (.iload_n 2) 23 0 [] ls st h)) ∧
  (∀ (ls : zL) (st : zS) (h : zH), zx 169 23 ls st h = zgo 169 (zpure .isub 24 0 [] ls st h)) ∧
  (∀ (ls : zL) (st : zS) (h : zH), zx 169 24 ls st h = zgo 169 (zpure (.iload_n 2) 25 0 [] ls st h)) ∧
  (∀ (ls : zL) (st : zS) (h : zH), zx 169 25 ls st h = zgo 169 (zpure (.iconst 1) 26 0 [] ls st h)) ∧
  (∀ (ls : zL) (st : zS) (h : zH), zx 169 26 ls st h = zgo 169 (zpure .ishr 27 0 [] ls st h)) ∧
  (∀ (ls : zL) (st : zS) (h : zH), zx 169 27 ls st h = zca 169 27 30 ls 178 4 0 (ztake 3 st) h) ∧
  (∀ (ls : zL) (st : zS) (h : zH), zx 169 30 ls st h = zgo 169 (zpure (.istore_n 3) 31 0 [] ls st h)) ∧
  (∀ (ls : zL) (st : zS) (h : zH), zx 169 31 ls st h = zgo 169 (zpure (.aload_n 0) 32 0 [] ls st h)) ∧
  (∀ (ls : zL) (st : zS) (h : zH), zx 169 32 ls st h = zgo 169 (zpure (.aload_n 0) 33 0 [] ls st h)) ∧
  (∀ (ls : zL) (st : zS) (h : zH), zx 169 33 ls st h = zgo 169 (zpure (.getfield 9) 36 0 [7, 1] ls st h)) ∧
  (∀ (ls : zL) (st : zS) (h : zH), zx 169 36 ls st h = zgo 169 (zpure (.iload_n 3) 37 0 [] ls st h)) ∧
  (∀ (ls : zL) (st : zS) (h : zH), zx 169 37 ls st h = zca 169 37 40 ls 179 2 0 (ztake 2 st) h) ∧
  (∀ (ls : zL) (st : zS) (h : zH), zx 169 40 ls st h = zgo 169 (zpure .dup_x1 41 0 [] ls st h)) ∧
  (∀ (ls : zL) (st : zS) (h : zH), zx 169 41 ls st h = zgo 169 (zpure (.putfield 9) 44 0 [7, 1, 7] ls st h)) ∧
  (∀ (ls : zL) (st : zS) (h : zH), zx 169 44 ls st h = zret 7 st h) ∧
  (∀ (ls : zL) (st : zS) (h : zH), zx 169 45 ls st h = zgo 169 (zpure (.aload_n 0) 46 0 [] ls st h)) ∧
  (∀ (ls : zL) (st : zS) (h : zH), zx 169 46 ls st h = zgo 169 (zpure (.bipush 10) 48 0 [] ls st h)) ∧
  (∀ (ls : zL) (st : zS) (h : zH), zx 169 48 ls st h = zgo 169 (zpure (.iload_n 1) 49 0 [] ls st h)) ∧
  (∀ (ls : zL) (st : zS) (h : zH), zx 169 49 ls st h = zgo 169 (zpure (.invokestatic 79) 52 0 [1] ls st h)) ∧
  (∀ (ls : zL) (st : zS) (h : zH), zx 169 52 ls st h = zgo 169 (zpure (.anewarray 7) 55 0 [] ls st h)) ∧
  (∀ (ls : zL) (st : zS) (h : zH), zx 169 55 ls st h = zgo 169 (zpure .dup_x1 56 0 [] ls st h)) ∧
  (∀ (ls : zL) (st : zS) (h : zH), zx 169 56 ls st h = zgo 169 (zpure (.putfield 9) 59 0 [7, 1, 7] ls st h)) ∧
  (∀ (ls : zL) (st : zS) (h : zH), zx 169 59 ls st h = zret 7 st h) :=
  ⟨zx_0 rfl, zx_0 rfl, zx_0 rfl, zx_0 rfl, zx_0 rfl, zx_0 rfl, zx_0 rfl, zx_0 rfl, zx_0 rfl, zx_0 rfl, zx_0 rfl, zx_0 rfl, zx_0 rfl, zx_0 rfl, zx_0 rfl, zx_0 rfl, zx_0 rfl, zx_2c rfl, zx_0 rfl, zx_0 rfl, zx_0 rfl, zx_0 rfl, zx_0 rfl, zx_2c rfl, zx_0 rfl, zx_0 rfl, zx_1 rfl, zx_0 rfl, zx_0 rfl, zx_0 rfl, zx_0 rfl, zx_0 rfl, zx_0 rfl, zx_0 rfl, zx_1 rfl⟩
/-- Jx4a65c_grow_d5877 -/
theorem z170 :
  (∀ (ls : zL) (st : zS) (h : zH), zx 170 0 ls st h = zgo 170 (zpure (.aload_n 0) 1 0 [] ls st h)) ∧
  (∀ (ls : zL) (st : zS) (h : zH), zx 170 1 ls st h = zgo 170 (zpure (.aload_n 0) 2 0 [] ls st h)) ∧
  (∀ (ls : zL) (st : zS) (h : zH), zx 170 2 ls st h = zgo 170 (zpure (.getfield 48) 5 0 [7, 2] ls st h)) ∧
  (∀ (ls : zL) (st : zS) (h : zH), zx 170 5 ls st h = zgo 170 (zpure (.iconst 1) 6 0 [] ls st h)) ∧
  (∀ (ls : zL) (st : zS) (h : zH), zx 170 6 ls st h = zgo 170 (zpure .iadd 7 0 [] ls st h)) ∧
  (∀ (ls : zL) (st : zS) (h : zH), zx 170 7 ls st h = zca 170 7 10 ls 169 4 8 (ztake 2 st) h) ∧
  (∀ (ls : zL) (st : zS) (h : zH), zx 170 10 ls st h = zret 7 st h) :=
  ⟨zx_0 rfl, zx_0 rfl, zx_0 rfl, zx_0 rfl, zx_0 rfl, zx_2c rfl, zx_1 rfl⟩
/-- Jx4a65c_get_915e3 -/
theorem z171 :
  (∀ (ls : zL) (st : zS) (h : zH), zx 171 0 ls st h = zgo 171 (zpure (.iload_n 1) 1 0 [] ls st h)) ∧
  (∀ (ls : zL) (st : zS) (h : zH), zx 171 1 ls st h = zgo 171 (zpure (.aload_n 0) 2 0 [] ls st h)) ∧
  (∀ (ls : zL) (st : zS) (h : zH), zx 171 2 ls st h = zgo 171 (zpure (.getfield 48) 5 0 [7, 2] ls st h)) ∧
  (∀ (ls : zL) (st : zS) (h : zH), zx 171 5 ls st h = zca 171 5 8 ls 176 2 0 (ztake 2 st) h) ∧
  (∀ (ls : zL) (st : zS) (h : zH), zx 171 8 ls st h = zgo 171 (zpure .pop 9 0 [] ls st h)) ∧
  (∀ (ls : zL) (st : zS) (h : zH), zx 171 9 ls st h = zgo 171 (zpure (.aload_n 0) 10 0 [] ls st h)) ∧
  (∀ (ls : zL) (st : zS) (h : zH), zx 171 10 ls st h = zgo 171 (zpure (.iload_n 1) 11 0 [] ls st h)) ∧
  (∀ (ls : zL) (st : zS) (h : zH), zx 171 11 ls st h = zca 171 11 14 ls 172 2 8 (ztake 2 st) h) ∧
  (∀ (ls : zL) (st : zS) (h : zH), zx 171 14 ls st h = zret 7 st h) :=
  ⟨zx_0 rfl, zx_0 rfl, zx_0 rfl, zx_2c rfl, zx_0 rfl, zx_0 rfl, zx_0 rfl, zx_2c rfl, zx_1 rfl⟩
/-- Jx4a65c_elementData_915e3 -/
theorem z172 :
  (∀ (ls : zL) (st : zS) (h : zH), zx 172 0 ls st h = zgo 172 (zpure (.aload_n 0) 1 0 [] ls st h)) ∧
  (∀ (ls : zL) (st : zS) (h : zH), zx 172 1 ls st h = zgo 172 (zpure (.getfield 9) 4 0 [7, 1] ls st h)) ∧
  (∀ (ls : zL) (st : zS) (h : zH), zx 172 4 ls st h = zgo 172 (zpure (.iload_n 1) 5 0 [] ls st h)) ∧
  (∀ (ls : zL) (st : zS) (h : zH), zx 172 5 ls st h = zgo 172 (zpure .aaload 6 0 [] ls st h)) ∧
  (∀ (ls : zL) (st : zS) (h : zH), zx 172 6 ls st h = zret 7 st h) :=
  ⟨zx_0 rfl, zx_0 rfl, zx_0 rfl, zx_0 rfl, zx_1 rfl⟩
/-- Jx4a65c_remove_915e3 -/
theorem z173 :
  (∀ (ls : zL) (st : zS) (h : zH), zx 173 0 ls st h = zgo 173 (zpure (.iload_n 1) 1 0 [] ls st h)) ∧
  (∀ (ls : zL) (st : zS) (h : zH), zx 173 1 ls st h = zgo 173 (zpure (.aload_n 0) 2 0 [] ls st h)) ∧
  (∀ (ls : zL) (st : zS) (h : zH), zx 173 2 ls st h = zgo 173 (zpure (.getfield 48) 5 0 [7, 2] ls st h)) ∧
  (∀ (ls : zL) (st : zS) (h : zH), zx 173 5 ls st h = zca 173 5 8 ls 176 2 0 (ztake 2 st) h) ∧
  (∀ (ls : zL) (st : zS) (h : zH), zx 173 8 ls st h = zgo 173 (zpure .pop 9 0 [] ls st h)) ∧
  (∀ (ls : zL) (st : zS) (h : zH), zx 173 9 ls st h = zgo 173 (zpure (.aload_n 0) 10 0 [] ls st h)) ∧
  (∀ (ls : zL) (st : zS) (h : zH), zx 173 10 ls st h = zgo 173 (zpure (.getfield 9) 13 0 [7, 1] ls st h)) ∧
  (∀ (ls : zL) (st : zS) (h : zH), zx 173 13 ls st h = zgo 173 (zpure (.astore_n 2) 14 0 [] ls st h)) ∧
  (∀ (ls : zL) (st : zS) (h : zH), zx 173 14 ls st h = zgo 173 (zpure (.aload_n 2) 15 0 [] ls st h)) ∧
  (∀ (ls : zL) (st : zS) (h : zH), zx 173 15 ls st h = zgo 173 (zpure (.iload_n 1) 16 0 [] ls st h)) ∧
  (∀ (ls : zL) (st : zS) (h : zH), zx 173 16 ls st h = zgo 173 (zpure .aaload 17 0 [] ls st h)) ∧
  (∀ (ls : zL) (st : zS) (h : zH), zx 173 17 ls st h = zgo 173 (zpure (.astore_n 3) 18 0 [] ls st h)) ∧
  (∀ (ls : zL) (st : zS) (h : zH), zx 173 18 ls st h = zgo 173 (zpure (.aload_n 0) 19 0 [] ls st h)) ∧
  (∀ (ls : zL) (st : zS) (h : zH), zx 173 19 ls st h = zgo 173 (zpure (.aload_n 2) 20 0 [] ls st h)) ∧
  (∀ (ls : zL) (st : zS) (h : zH), zx 173 20 ls st h = zgo 173 (zpure (.iload_n 1) 21 0 [] ls st h)) ∧
  (∀ (ls : zL) (st : zS) (h : zH), zx 173 21 ls st h = zca 173 21 24 ls 174 4 8 (ztake 3 st) h) ∧
  (∀ (ls : zL) (st : zS) (h : zH), zx 173 24 ls st h = zgo 173 (zpure (.aload_n 3) 25 0 [] ls st h)) ∧
  (∀ (ls : zL) (st : zS) (h : zH), zx 173 25 ls st h = zret 7 st h) :=
  ⟨zx_0 rfl, zx_0 rfl, zx_0 rfl, zx_2c rfl, zx_0 rfl, zx_0 rfl, zx_0 rfl, zx_0 rfl, zx_0 rfl, zx_0 rfl, zx_0 rfl, zx_0 rfl, zx_0 rfl, zx_0 rfl, zx_0 rfl, zx_2c rfl, zx_0 rfl, zx_1 rfl⟩
/-- Jx4a65c_fastRemove_b59b0 -/
theorem z174 :
  (∀ (ls : zL) (st : zS) (h : zH), zx 174 0 ls st h = zgo 174 (zpure (.aload_n 0) 1 0 [] ls st h)) ∧
  (∀ (ls : zL) (st : zS) (h : zH), zx 174 1 ls st h = zgo 174 (zpure .dup 2 0 [] ls st h)) ∧
  (∀ (ls : zL) (st : zS) (h : zH), zx 174 2 ls st h = zgo 174 (zpure (.getfield 63) 5 0 [7, 0] ls st h)) ∧
  (∀ (ls : zL) (st : zS) (h : zH), zx 174 5 ls st h = zgo 174 (zpure (.iconst 1) 6 0 [] ls st h)) ∧
  (∀ (ls : zL) (st : zS) (h : zH), zx 174 6 ls st h = zgo 174 (zpure .iadd 7 0 [] ls st h)) ∧
  (∀ (ls : zL) (st : zS) (h : zH), zx 174 7 ls st h = zgo 174 (zpure (.putfield 63) 10 0 [7, 0, 0] ls st h)) ∧
  (∀ (ls : zL) (st : zS) (h : zH), zx 174 10 ls st h = zgo 174 (zpure (.aload_n 0) 11 0 [] ls st h)) ∧
  (∀ (ls : zL) (st : zS) (h : zH), zx 174 11 ls st h = zgo 174 (zpure (.getfield 48) 14 0 [7, 2] ls st h)) ∧
  (∀ (ls : zL) (st : zS) (h : zH), zx 174 14 ls st h = zgo 174 (zpure (.iconst 1) 15 0 [] ls st h)) ∧
  (∀ (ls : zL) (st : zS) (h : zH), zx 174 15 ls st h = zgo 174 (zpure .isub 16 0 [] ls st h)) ∧
  (∀ (ls : zL) (st : zS) (h : zH), zx 174 16 ls st h = zgo 174 (zpure .dup 17 0 [] ls st h)) ∧
  (∀ (ls : zL) (st : zS) (h : zH), zx 174 17 ls st h = zgo 174 (zpure (.istore_n 3) 18 0 [] ls st h)) ∧
  (∀ (ls : zL) (st : zS) (h : zH), zx 174 18 ls st h = zgo 174 (zpure (.iload_n 2) 19 0 [] ls st h)) ∧
  (∀ (ls : zL) (st : zS) (h : zH), zx 174 19 ls st h = zgo 174 (zpure (.if_icmp .le 15) 22 34 [] ls st h)) ∧
  (∀ (ls : zL) (st : zS) (h : zH), zx 174 22 ls st h = zgo 174 (zpure (.aload_n 1) 23 0 [] ls st h)) ∧
  (∀ (ls : zL) (st : zS) (h : zH), zx 174 23 ls st h = zgo 174 (zpure (.iload_n 2) 24 0 [] ls st h)) ∧
  (∀ (ls : zL) (st : zS) (h : zH), zx 174 24 ls st h = zgo 174 (zpure (.iconst 1) 25 0 [] ls st h)) ∧
  (∀ (ls : zL) (st : zS) (h : zH), zx 174 25 ls st h = zgo 174 (zpure .iadd 26 0 [] ls st h)) ∧
  (∀ (ls : zL) (st : zS) (h : zH), zx 174 26 ls st h = zgo 174 (zpure (.aload_n 1) 27 0 [] ls st h)) ∧
  (∀ (ls : zL) (st : zS) (h : zH), zx 174 27 ls st h = zgo 174 (zpure (.iload_n 2) 28 0 [] ls st h)) ∧
  (∀ (ls : zL) (st : zS) (h : zH), zx 174 28 ls st h = zgo 174 (zpure (.iload_n 3) 29 0 [] ls st h)) ∧
  (∀ (ls : zL) (st : zS) (h : zH), zx 174 29 ls st h = zgo 174 (zpure (.iload_n 2) 30 0 [] ls st h)) ∧
  (∀ (ls : zL) (st : zS) (h : zH), zx 174 30 ls st h = zgo 174 (zpure .isub 31 0 [] ls st h)) ∧
  (∀ (ls : zL) (st : zS) (h : zH), zx 174 31 ls st h = zgo 174 (zpure (.invokestatic 112) 34 0 [4] ls st h)) ∧
  (∀ (ls : zL) (st : zS) (h : zH), zx 174 34 ls st h = zgo 174 (zpure (.aload_n 1) 35 0 [] ls st h)) ∧
  (∀ (ls : zL) (st : zS) (h : zH), zx 174 35 ls st h = zgo 174 (zpure (.aload_n 0) 36 0 [] ls st h)) ∧
  (∀ (ls : zL) (st : zS) (h : zH), zx 174 36 ls st h = zgo 174 (zpure (.iload_n 3) 37 0 [] ls st h)) ∧
  (∀ (ls : zL) (st : zS) (h : zH), zx 174 37 ls st h = zgo 174 (zpure .dup_x1 38 0 [] ls st h)) ∧
  (∀ (ls : zL) (st : zS) (h : zH), zx 174 38 ls st h = zgo 174 (zpure (.putfield 48) 41 0 [7, 2, 0] ls st h)) ∧
  (∀ (ls : zL) (st : zS) (h : zH), zx 174 41 ls st h = zgo 174 (zpure .aconst_null 42 0 [] ls st h)) ∧
  (∀ (ls : zL) (st : zS) (h : zH), zx 174 42 ls st h = zgo 174 (zpure .aastore 43 0 [] ls st h)) ∧
  (∀ (ls : zL) (st : zS) (h : zH), zx 174 43 ls st h = zret 8 st h) :=
  ⟨zx_0 rfl, zx_0 rfl, zx_0 rfl, zx_0 rfl, zx_0 rfl, zx_0 rfl, zx_0 rfl, zx_0 rfl, zx_0 rfl, zx_0 rfl, zx_0 rfl, zx_0 rfl, zx_0 rfl, zx_0 rfl, zx_0 rfl, zx_0 rfl, zx_0 rfl, zx_0 rfl, zx_0 rfl, zx_0 rfl, zx_0 rfl, zx_0 rfl, zx_0 rfl, zx_0 rfl, zx_0 rfl, zx_0 rfl, zx_0 rfl, zx_0 rfl, zx_0 rfl, zx_0 rfl, zx_0 rfl, zx_1 rfl⟩
/-- Jx4a65c_size_8abf5 -/
theorem z175 :
  (∀ (ls : zL) (st : zS) (h : zH), zx 175 0 ls st h = zgo 175 (zpure (.aload_n 0) 1 0 [] ls st h)) ∧
  (∀ (ls : zL) (st : zS) (h : zH), zx 175 1 ls st h = zgo 175 (zpure (.getfield 48) 4 0 [7, 2] ls st h)) ∧
  (∀ (ls : zL) (st : zS) (h : zH), zx 175 4 ls st h = zret 0 st h) :=
  ⟨zx_0 rfl, zx_0 rfl, zx_1 rfl⟩
/-- J15_checkIndex_7cf53 -/
theorem z176 :
  (∀ (ls : zL) (st : zS) (h : zH), zx 176 0 ls st h = zgo 176 (zpure (.iload_n 0) 1 0 [] ls st h)) ∧
  (∀ (ls : zL) (st : zS) (h : zH), zx 176 1 ls st h = zgo 176 (zpure (.iload_n 1) 2 0 [] ls st h)) ∧
  (∀ (ls : zL) (st : zS) (h : zH), zx 176 2 ls st h = zgo 176 (zpure .aconst_null 3 0 [] ls st h)) ∧
  (∀ (ls : zL) (st : zS) (h : zH), zx 176 3 ls st h = zca 176 3 6 ls 177 3 0 (ztake 3 st) h) ∧
  (∀ (ls : zL) (st : zS) (h : zH), zx 176 6 ls st h = zret 0 st h) :=
  ⟨zx_0 rfl, zx_0 rfl, zx_0 rfl, zx_2c rfl, zx_1 rfl⟩
/-- J3_checkIndex_8e157 -/
theorem z177 :
  (∀ (ls : zL) (st : zS) (h : zH), zx 177 0 ls st h = zgo 177 (zpure (.iload_n 0) 1 0 [] ls st h)) ∧
  (∀ (ls : zL) (st : zS) (h : zH), zx 177 1 ls st h = zgo 177 (zpure (.ifCond .lt 8) 4 9 [] ls st h)) ∧
  (∀ (ls : zL) (st : zS) (h : zH), zx 177 4 ls st h = zgo 177 (zpure (.iload_n 0) 5 0 [] ls st h)) ∧
  (∀ (ls : zL) (st : zS) (h : zH), zx 177 5 ls st h = zgo 177 (zpure (.iload_n 1) 6 0 [] ls st h)) ∧
  (∀ (ls : zL) (st : zS) (h : zH), zx 177 6 ls st h = zgo 177 (zpure (.if_icmp .lt 10) 9 16 [] ls st h)) ∧
  (∀ (ls : zL) (st : zS) (h : zH), zx 177 9 ls st h = zgo 177 (zpure (.aload_n 2) 10 0 [] ls st h)) ∧
  (∀ (ls : zL) (st : zS) (h : zH), zx 177 10 ls st h = zgo 177 (zpure (.iload_n 0) 11 0 [] ls st h)) ∧
  (∀ (ls : zL) (st : zS) (h : zH), zx 177 11 ls st h = zgo 177 (zpure (.iload_n 1) 12 0 [] ls st h)) ∧
  (∀ (ls : zL) (st : zS) (h : zH), zx 177 15 ls st h = zgo 177 (zpure .athrow 16 0 [] ls st h)) ∧
  (∀ (ls : zL) (st : zS) (h : zH), zx 177 16 ls st h = zgo 177 (zpure (.iload_n 0) 17 0 [] ls st h)) ∧
  (∀ (ls : zL) (st : zS) (h : zH), zx 177 17 ls st h = zret 0 st h) :=
  ⟨zx_0 rfl, zx_0 rfl, zx_0 rfl, zx_0 rfl, zx_0 rfl, zx_0 rfl, zx_0 rfl, zx_0 rfl, zx_0 rfl, zx_0 rfl, zx_1 rfl⟩
/-- J8_newLength_cabcc -/
theorem z178 :
  (∀ (ls : zL) (st : zS) (h : zH), zx 178 0 ls st h = zgo 178 (zpure (.iload_n 0) 1 0 [] ls st h)) ∧
  (∀ (ls : zL) (st : zS) (h : zH), zx 178 1 ls st h = zgo 178 (zpure (.iload_n 1) 2 0 [] ls st h)) ∧
  (∀ (ls : zL) (st : zS) (h : zH), zx 178 2 ls st h = zgo 178 (zpure (.iload_n 2) 3 0 [] ls st h)) ∧
  (∀ (ls : zL) (st : zS) (h : zH), zx 178 3 ls st h = zgo 178 (zpure (.invokestatic 194) 6 0 [1] ls st h)) ∧
  (∀ (ls : zL) (st : zS) (h : zH), zx 178 6 ls st h = zgo 178 (zpure .iadd 7 0 [] ls st h)) ∧
  (∀ (ls : zL) (st : zS) (h : zH), zx 178 7 ls st h = zgo 178 (zpure (.istore_n 3) 8 0 [] ls st h)) ∧
  (∀ (ls : zL) (st : zS) (h : zH), zx 178 8 ls st h = zgo 178 (zpure (.iconst 0) 9 0 [] ls st h)) ∧
  (∀ (ls : zL) (st : zS) (h : zH), zx 178 9 ls st h = zgo 178 (zpure (.iload_n 3) 10 0 [] ls st h)) ∧
  (∀ (ls : zL) (st : zS) (h : zH), zx 178 10 ls st h = zgo 178 (zpure (.if_icmp .ge 11) 13 21 [] ls st h)) ∧
  (∀ (ls : zL) (st : zS) (h : zH), zx 178 13 ls st h = zgo 178 (zpure (.iload_n 3) 14 0 [] ls st h)) ∧
  (∀ (ls : zL) (st : zS) (h : zH), zx 178 14 ls st h = zgo 178 (zpure (.ldc 200) 16 0 [0, 2147483639] ls st h)) ∧
  (∀ (ls : zL) (st : zS) (h : zH), zx 178 16 ls st h = zgo 178 (zpure (.if_icmp .gt 5) 19 21 [] ls st h)) ∧
  (∀ (ls : zL) (st : zS) (h : zH), zx 178 19 ls st h = zgo 178 (zpure (.iload_n 3) 20 0 [] ls st h)) ∧
  (∀ (ls : zL) (st : zS) (h : zH), zx 178 20 ls st h = zret 0 st h) ∧
  (∀ (ls : zL) (st : zS) (h : zH), zx 178 21 ls st h = zgo 178 (zpure (.iload_n 0) 22 0 [] ls st h)) ∧
  (∀ (ls : zL) (st : zS) (h : zH), zx 178 22 ls st h = zgo 178 (zpure (.iload_n 1) 23 0 [] ls st h)) ∧
  (∀ (ls : zL) (st : zS) (h : zH), zx 178 26 ls st h = zret 0 st h) :=
  ⟨zx_0 rfl, zx_0 rfl, zx_0 rfl, zx_0 rfl, zx_0 rfl, zx_0 rfl, zx_0 rfl, zx_0 rfl, zx_0 rfl, zx_0 rfl, zx_0 rfl, zx_0 rfl, zx_0 rfl, zx_1 rfl, zx_0 rfl, zx_0 rfl, zx_1 rfl⟩
/-- J7_copyOf_1904c -/
theorem z179 :
  (∀ (ls : zL) (st : zS) (h : zH), zx 179 0 ls st h = zgo 179 (zpure (.aload_n 0) 1 0 [] ls st h)) ∧
  (∀ (ls : zL) (st : zS) (h : zH), zx 179 1 ls st h = zgo 179 (zpure (.iload_n 1) 2 0 [] ls st h)) ∧
  (∀ (ls : zL) (st : zS) (h : zH), zx 179 2 ls st h = zgo 179 (zpure (.aload_n 0) 3 0 [] ls st h)) ∧
  (∀ (ls : zL) (st : zS) (h : zH), zx 179 3 ls st h = zgo 179 (zpure (.invokevirtual 86) 6 0 [1] ls st h)) ∧
  (∀ (ls : zL) (st : zS) (h : zH), zx 179 6 ls st h = zca 179 6 9 ls 180 4 0 (ztake 3 st) h) ∧
  (∀ (ls : zL) (st : zS) (h : zH), zx 179 9 ls st h = zret 7 st h) :=
  ⟨zx_0 rfl, zx_0 rfl, zx_0 rfl, zx_0 rfl, zx_2c rfl, zx_1 rfl⟩
/-- J7_copyOf_6403c -/
theorem z180 :
  (∀ (ls : zL) (st : zS) (h : zH), zx 180 0 ls st h = zgo 180 (zpure (.aload_n 2) 1 0 [] ls st h)) ∧
  (∀ (ls : zL) (st : zS) (h : zH), zx 180 1 ls st h = zgo 180 (zpure (.ldc 110) 3 0 [2, 0] ls st h)) ∧
  (∀ (ls : zL) (st : zS) (h : zH), zx 180 3 ls st h = zgo 180 (zpure (.if_acmp .ne 10) 6 13 [] ls st h)) ∧
  (∀ (ls : zL) (st : zS) (h : zH), zx 180 6 ls st h = zgo 180 (zpure (.iload_n 1) 7 0 [] ls st h)) ∧
  (∀ (ls : zL) (st : zS) (h : zH), zx 180 7 ls st h = zgo 180 (zpure (.anewarray 2) 10 0 [] ls st h)) ∧
  (∀ (ls : zL) (st : zS) (h : zH), zx 180 10 ls st h = zgo 180 (zpure (.goto 14) 13 24 [] ls st h)) ∧
  (∀ (ls : zL) (st : zS) (h : zH), zx 180 13 ls st h = zgo 180 (zpure (.aload_n 2) 14 0 [] ls st h)) ∧
  (∀ (ls : zL) (st : zS) (h : zH), zx 180 17 ls st h = zgo 180 (zpure (.iload_n 1) 18 0 [] ls st h)) ∧
  (∀ (ls : zL) (st : zS) (h : zH), zx 180 24 ls st h = zgo 180 (zpure (.astore_n 3) 25 0 [] ls st h)) ∧
  (∀ (ls : zL) (st : zS) (h : zH), zx 180 25 ls st h = zgo 180 (zpure (.aload_n 0) 26 0 [] ls st h)) ∧
  (∀ (ls : zL) (st : zS) (h : zH), zx 180 26 ls st h = zgo 180 (zpure (.iconst 0) 27 0 [] ls st h)) ∧
  (∀ (ls : zL) (st : zS) (h : zH), zx 180 27 ls st h = zgo 180 (zpure (.aload_n 3) 28 0 [] ls st h)) ∧
  (∀ (ls : zL) (st : zS) (h : zH), zx 180 28 ls st h = zgo 180 (zpure (.iconst 0) 29 0 [] ls st h)) ∧
  (∀ (ls : zL) (st : zS) (h : zH), zx 180 29 ls st h = zgo 180 (zpure (.aload_n 0) 30 0 [] ls st h)) ∧
  (∀ (ls : zL) (st : zS) (h : zH), zx 180 30 ls st h = zgo 180 (zpure .arraylength 31 0 [] ls st h)) ∧
  (∀ (ls : zL) (st : zS) (h : zH), zx 180 31 ls st h = zgo 180 (zpure (.iload_n 1) 32 0 [] ls st h)) ∧
  (∀ (ls : zL) (st : zS) (h : zH), zx 180 32 ls st h = zgo 180 (zpure (.invokestatic 304) 35 0 [2] ls st h)) ∧
  (∀ (ls : zL) (st : zS) (h : zH), zx 180 35 ls st h = zgo 180 (zpure (.invokestatic 150) 38 0 [4] ls st h)) ∧
  (∀ (ls : zL) (st : zS) (h : zH), zx 180 38 ls st h = zgo 180 (zpure (.aload_n 3) 39 0 [] ls st h)) ∧
  (∀ (ls : zL) (st : zS) (h : zH), zx 180 39 ls st h = zret 7 st h) :=
  ⟨zx_0 rfl, zx_0 rfl, zx_0 rfl, zx_0 rfl, zx_0 rfl, zx_0 rfl, zx_0 rfl, zx_0 rfl, zx_0 rfl, zx_0 rfl, zx_0 rfl, zx_0 rfl, zx_0 rfl, zx_0 rfl, zx_0 rfl, zx_0 rfl, zx_0 rfl, zx_0 rfl, zx_0 rfl, zx_1 rfl⟩
theorem z181_5 : ∀ (ls : zL) (st : zS) (h : zH), zx 181 5 ls st h = zgo 181 (zpure (.iload_n 2) 6 0 [] ls st h) := zx_0 rfl
/-- J7_fill_031fb -/
theorem z181 :
  (∀ (ls : zL) (st : zS) (h : zH), zx 181 0 ls st h = zgo 181 (zpure (.iconst 0) 1 0 [] ls st h)) ∧
  (∀ (ls : zL) (st : zS) (h : zH), zx 181 1 ls st h = zgo 181 (zpure (.istore_n 2) 2 0 [] ls st h)) ∧
  (∀ (ls : zL) (st : zS) (h : zH), zx 181 2 ls st h = zgo 181 (zpure (.aload_n 0) 3 0 [] ls st h)) ∧
  (∀ (ls : zL) (st : zS) (h : zH), zx 181 3 ls st h = zgo 181 (zpure .arraylength 4 0 [] ls st h)) ∧
  (∀ (ls : zL) (st : zS) (h : zH), zx 181 4 ls st h = zgo 181 (zpure (.istore_n 3) 5 0 [] ls st h)) ∧
  (∀ (ls : zL) (st : zS) (h : zH), zx 181 6 ls st h = zgo 181 (zpure (.iload_n 3) 7 0 [] ls st h)) ∧
  (∀ (ls : zL) (st : zS) (h : zH), zx 181 7 ls st h = zgo 181 (zpure (.if_icmp .ge 13) 10 20 [] ls st h)) ∧
  (∀ (ls : zL) (st : zS) (h : zH), zx 181 10 ls st h = zgo 181 (zpure (.aload_n 0) 11 0 [] ls st h)) ∧
  (∀ (ls : zL) (st : zS) (h : zH), zx 181 11 ls st h = zgo 181 (zpure (.iload_n 2) 12 0 [] ls st h)) ∧
  (∀ (ls : zL) (st : zS) (h : zH), zx 181 12 ls st h = zgo 181 (zpure (.iload_n 1) 13 0 [] ls st h)) ∧
  (∀ (ls : zL) (st : zS) (h : zH), zx 181 13 ls st h = zgo 181 (zpure .bastore 14 0 [] ls st h)) ∧
  (∀ (ls : zL) (st : zS) (h : zH), zx 181 14 ls st h = zgo 181 (zpure (.iinc 2 1) 17 0 [] ls st h)) ∧
  (∀ (ls : zL) (st : zS) (h : zH), zx 181 17 ls st h = zgo 181 (zpure (.goto (-12)) 20 5 [] ls st h)) ∧
  (∀ (ls : zL) (st : zS) (h : zH), zx 181 20 ls st h = zret 8 st h) :=
  ⟨zx_0 rfl, zx_0 rfl, zx_0 rfl, zx_0 rfl, zx_0 rfl, zx_0 rfl, zx_0 rfl, zx_0 rfl, zx_0 rfl, zx_0 rfl, zx_0 rfl, zx_0 rfl, zx_0 rfl, zx_1 rfl⟩
/-- J6_bitCount_0f7a4 -/
theorem z182 :
  (∀ (ls : zL) (st : zS) (h : zH), zx 182 0 ls st h = zgo 182 (zpure (.iload_n 0) 1 0 [] ls st h)) ∧
  (∀ (ls : zL) (st : zS) (h : zH), zx 182 1 ls st h = zgo 182 (zpure (.iload_n 0) 2 0 [] ls st h)) ∧
  (∀ (ls : zL) (st : zS) (h : zH), zx 182 2 ls st h = zgo 182 (zpure (.iconst 1) 3 0 [] ls st h)) ∧
  (∀ (ls : zL) (st : zS) (h : zH), zx 182 3 ls st h = zgo 182 (zpure .iushr 4 0 [] ls st h)) ∧
  (∀ (ls : zL) (st : zS) (h : zH), zx 182 4 ls st h = zgo 182 (zpure (.ldc_w 265) 7 0 [0, 1431655765] ls st h)) ∧
  (∀ (ls : zL) (st : zS) (h : zH), zx 182 7 ls st h = zgo 182 (zpure .iand 8 0 [] ls st h)) ∧
  (∀ (ls : zL) (st : zS) (h : zH), zx 182 8 ls st h = zgo 182 (zpure .isub 9 0 [] ls st h)) ∧
  (∀ (ls : zL) (st : zS) (h : zH), zx 182 9 ls st h = zgo 182 (zpure (.istore_n 0) 10 0 [] ls st h)) ∧
  (∀ (ls : zL) (st : zS) (h : zH), zx 182 10 ls st h = zgo 182 (zpure (.iload_n 0) 11 0 [] ls st h)) ∧
  (∀ (ls : zL) (st : zS) (h : zH), zx 182 11 ls st h = zgo 182 (zpure (.ldc_w 266) 14 0 [0, 858993459] ls st h)) ∧
  (∀ (ls : zL) (st : zS) (h : zH), zx 182 14 ls st h = zgo 182 (zpure .iand 15 0 [] ls st h)) ∧
  (∀ (ls : zL) (st : zS) (h : zH), zx 182 15 ls st h = zgo 182 (zpure (.iload_n 0) 16 0 [] ls st h)) ∧
  (∀ (ls : zL) (st : zS) (h : zH), zx 182 16 ls st h = zgo 182 (zpure (.iconst 2) 17 0 [] ls st h)) ∧
  (∀ (ls : zL) (st : zS) (h : zH), zx 182 17 ls st h = zgo 182 (zpure .iushr 18 0 [] ls st h)) ∧
  (∀ (ls : zL) (st : zS) (h : zH), zx 182 18 ls st h = zgo 182 (zpure (.ldc_w 266) 21 0 [0, 858993459] ls st h)) ∧
  (∀ (ls : zL) (st : zS) (h : zH), zx 182 21 ls st h = zgo 182 (zpure .iand 22 0 [] ls st h)) ∧
  (∀ (ls : zL) (st : zS) (h : zH), zx 182 22 ls st h = zgo 182 (zpure .iadd 23 0 [] ls st h)) ∧
  (∀ (ls : zL) (st : zS) (h : zH), zx 182 23 ls st h = zgo 182 (zpure (.istore_n 0) 24 0 [] ls st h)) ∧
  (∀ (ls : zL) (st : zS) (h : zH), zx 182 24 ls st h = zgo 182 (zpure (.iload_n 0) 25 0 [] ls st h)) ∧
  (∀ (ls : zL) (st : zS) (h : zH), zx 182 25 ls st h = zgo 182 (zpure (.iload_n 0) 26 0 [] ls st h)) ∧
  (∀ (ls : zL) (st : zS) (h : zH), zx 182 26 ls st h = zgo 182 (zpure (.iconst 4) 27 0 [] ls st h)) ∧
  (∀ (ls : zL) (st : zS) (h : zH), zx 182 27 ls st h = zgo 182 (zpure .iushr 28 0 [] ls st h)) ∧
  (∀ (ls : zL) (st : zS) (h : zH), zx 182 28 ls st h = zgo 182 (zpure .iadd 29 0 [] ls st h)) ∧
  (∀ (ls : zL) (st : zS) (h : zH), zx 182 29 ls st h = zgo 182 (zpure (.ldc_w 267) 32 0 [0, 252645135] ls st h)) ∧
  (∀ (ls : zL) (st : zS) (h : zH), zx 182 32 ls st h = zgo 182 (zpure .iand 33 0 [] ls st h)) ∧
  (∀ (ls : zL) (st : zS) (h : zH), zx 182 33 ls st h = zgo 182 (zpure (.istore_n 0) 34 0 [] ls st h)) ∧
  (∀ (ls : zL) (st : zS) (h : zH), zx 182 34 ls st h = zgo 182 (zpure (.iload_n 0) 35 0 [] ls st h)) ∧
  (∀ (ls : zL) (st : zS) (h : zH), zx 182 35 ls st h = zgo 182 (zpure (.iload_n 0) 36 0 [] ls st h)) ∧
  (∀ (ls : zL) (st : zS) (h : zH), zx 182 36 ls st h = zgo 182 (zpure (.bipush 8) 38 0 [] ls st h)) ∧
  (∀ (ls : zL) (st : zS) (h : zH), zx 182 38 ls st h = zgo 182 (zpure .iushr 39 0 [] ls st h)) ∧
  (∀ (ls : zL) (st : zS) (h : zH), zx 182 39 ls st h = zgo 182 (zpure .iadd 40 0 [] ls st h)) ∧
  (∀ (ls : zL) (st : zS) (h : zH), zx 182 40 ls st h = zgo 182 (zpure (.istore_n 0) 41 0 [] ls st h)) ∧
  (∀ (ls : zL) (st : zS) (h : zH), zx 182 41 ls st h = zgo 182 (zpure (.iload_n 0) 42 0 [] ls st h)) ∧
  (∀ (ls : zL) (st : zS) (h : zH), zx 182 42 ls st h = zgo 182 (zpure (.iload_n 0) 43 0 [] ls st h)) ∧
  (∀ (ls : zL) (st : zS) (h : zH), zx 182 43 ls st h = zgo 182 (zpure (.bipush 16) 45 0 [] ls st h)) ∧
  (∀ (ls : zL) (st : zS) (h : zH), zx 182 45 ls st h = zgo 182 (zpure .iushr 46 0 [] ls st h)) ∧
  (∀ (ls : zL) (st : zS) (h : zH), zx 182 46 ls st h = zgo 182 (zpure .iadd 47 0 [] ls st h)) ∧
  (∀ (ls : zL) (st : zS) (h : zH), zx 182 47 ls st h = zgo 182 (zpure (.istore_n 0) 48 0 [] ls st h)) ∧
  (∀ (ls : zL) (st : zS) (h : zH), zx 182 48 ls st h = zgo 182 (zpure (.iload_n 0) 49 0 [] ls st h)) ∧
  (∀ (ls : zL) (st : zS) (h : zH), zx 182 49 ls st h = zgo 182 (zpure (.bipush 63) 51 0 [] ls st h)) ∧
  (∀ (ls : zL) (st : zS) (h : zH), zx 182 51 ls st h = zgo 182 (zpure .iand 52 0 [] ls st h)) ∧
  (∀ (ls : zL) (st : zS) (h : zH), zx 182 52 ls st h = zret 0 st h) :=
  ⟨zx_0 rfl, zx_0 rfl, zx_0 rfl, zx_0 rfl, zx_0 rfl, zx_0 rfl, zx_0 rfl, zx_0 rfl, zx_0 rfl, zx_0 rfl, zx_0 rfl, zx_0 rfl, zx_0 rfl, zx_0 rfl, zx_0 rfl, zx_0 rfl, zx_0 rfl, zx_0 rfl, zx_0 rfl, zx_0 rfl, zx_0 rfl, zx_0 rfl, zx_0 rfl, zx_0 rfl, zx_0 rfl, zx_0 rfl, zx_0 rfl, zx_0 rfl, zx_0 rfl, zx_0 rfl, zx_0 rfl, zx_0 rfl, zx_0 rfl, zx_0 rfl, zx_0 rfl, zx_0 rfl, zx_0 rfl, zx_0 rfl, zx_0 rfl, zx_0 rfl, zx_0 rfl, zx_1 rfl⟩
/-- J9_abs_f6c48 -/
theorem z183 :
  (∀ (ls : zL) (st : zS) (h : zH), zx 183 0 ls st h = zgo 183 (zpure (.fload_n 0) 1 0 [] ls st h)) ∧
  (∀ (ls : zL) (st : zS) (h : zH), zx 183 1 ls st h = zgo 183 (zpure (.invokestatic 68) 4 0 [5] ls st h)) ∧
  (∀ (ls : zL) (st : zS) (h : zH), zx 183 4 ls st h = zgo 183 (zpure (.ldc 134) 6 0 [0, 2147483647] ls st h)) ∧
  (∀ (ls : zL) (st : zS) (h : zH), zx 183 6 ls st h = zgo 183 (zpure .iand 7 0 [] ls st h)) ∧
  (∀ (ls : zL) (st : zS) (h : zH), zx 183 7 ls st h = zgo 183 (zpure (.invokestatic 162) 10 0 [6] ls st h)) ∧
  (∀ (ls : zL) (st : zS) (h : zH), zx 183 10 ls st h = zret 5 st h) :=
  ⟨zx_0 rfl, zx_0 rfl, zx_0 rfl, zx_0 rfl, zx_0 rfl, zx_1 rfl⟩
/-- Jxf58ca_floatToIntBits_5c35a -/
theorem z184 :
  (∀ (ls : zL) (st : zS) (h : zH), zx 184 0 ls st h = zgo 184 (zpure (.fload_n 0) 1 0 [] ls st h)) ∧
  (∀ (ls : zL) (st : zS) (h : zH), zx 184 1 ls st h = zca 184 1 4 ls 185 1 0 (ztake 1 st) h) ∧
  (∀ (ls : zL) (st : zS) (h : zH), zx 184 4 ls st h = zgo 184 (zpure (.ifCond .ne 8) 7 12 [] ls st h)) ∧
  (∀ (ls : zL) (st : zS) (h : zH), zx 184 7 ls st h = zgo 184 (zpure (.fload_n 0) 8 0 [] ls st h)) ∧
  (∀ (ls : zL) (st : zS) (h : zH), zx 184 8 ls st h = zgo 184 (zpure (.invokestatic 74) 11 0 [5] ls st h)) ∧
  (∀ (ls : zL) (st : zS) (h : zH), zx 184 11 ls st h = zret 0 st h) ∧
  (∀ (ls : zL) (st : zS) (h : zH), zx 184 12 ls st h = zgo 184 (zpure (.ldc 77) 14 0 [0, 2143289344] ls st h)) ∧
  (∀ (ls : zL) (st : zS) (h : zH), zx 184 14 ls st h = zret 0 st h) :=
  ⟨zx_0 rfl, zx_2c rfl, zx_0 rfl, zx_0 rfl, zx_0 rfl, zx_1 rfl, zx_0 rfl, zx_1 rfl⟩
/-- Jxf58ca_isNaN_12338 -/
theorem z185 :
  (∀ (ls : zL) (st : zS) (h : zH), zx 185 0 ls st h = zgo 185 (zpure (.fload_n 0) 1 0 [] ls st h)) ∧
  (∀ (ls : zL) (st : zS) (h : zH), zx 185 1 ls st h = zgo 185 (zpure (.fload_n 0) 2 0 [] ls st h)) ∧
  (∀ (ls : zL) (st : zS) (h : zH), zx 185 2 ls st h = zgo 185 (zpure (.fcmp .l) 3 0 [] ls st h)) ∧
  (∀ (ls : zL) (st : zS) (h : zH), zx 185 3 ls st h = zgo 185 (zpure (.ifCond .eq 7) 6 10 [] ls st h)) ∧
  (∀ (ls : zL) (st : zS) (h : zH), zx 185 6 ls st h = zgo 185 (zpure (.iconst 1) 7 0 [] ls st h)) ∧
  (∀ (ls : zL) (st : zS) (h : zH), zx 185 7 ls st h = zgo 185 (zpure (.goto 4) 10 11 [] ls st h)) ∧
  (∀ (ls : zL) (st : zS) (h : zH), zx 185 10 ls st h = zgo 185 (zpure (.iconst 0) 11 0 [] ls st h)) ∧
  (∀ (ls : zL) (st : zS) (h : zH), zx 185 11 ls st h = zret 1 st h) :=
  ⟨zx_0 rfl, zx_0 rfl, zx_0 rfl, zx_0 rfl, zx_0 rfl, zx_0 rfl, zx_0 rfl, zx_1 rfl⟩
/-- Jxc12de_init_da8c8 -/
theorem z186 :
  (∀ (ls : zL) (st : zS) (h : zH), zx 186 0 ls st h = zgo 186 (zpure (.aload_n 0) 1 0 [] ls st h)) ∧
  (∀ (ls : zL) (st : zS) (h : zH), zx 186 1 ls st h = zca 186 1 4 ls 187 1 100 (ztake 1 st) h) ∧
  (∀ (ls : zL) (st : zS) (h : zH), zx 186 4 ls st h = zgo 186 (zpure (.aload_n 0) 5 0 [] ls st h)) ∧
  (∀ (ls : zL) (st : zS) (h : zH), zx 186 5 ls st h = zgo 186 (zpure (.iconst 0) 6 0 [] ls st h)) ∧
  (∀ (ls : zL) (st : zS) (h : zH), zx 186 6 ls st h = zgo 186 (zpure (.putfield 7) 9 0 [7, 0, 0] ls st h)) ∧
  (∀ (ls : zL) (st : zS) (h : zH), zx 186 9 ls st h = zret 8 st h) :=
  ⟨zx_0 rfl, zx_2c rfl, zx_0 rfl, zx_0 rfl, zx_0 rfl, zx_1 rfl⟩
/-- Jxa1e45_init_da8c8 -/
theorem z187 :
  (∀ (ls : zL) (st : zS) (h : zH), zx 187 0 ls st h = zgo 187 (zpure (.aload_n 0) 1 0 [] ls st h)) ∧
  (∀ (ls : zL) (st : zS) (h : zH), zx 187 1 ls st h = zgo 187 (zpure (.invokespecial 1) 4 0 [] ls st h)) ∧
  (∀ (ls : zL) (st : zS) (h : zH), zx 187 4 ls st h = zret 8 st h) :=
  ⟨zx_0 rfl, zx_0 rfl, zx_1 rfl⟩
/-- L_addProgramme -/
theorem z188 :
  (∀ (ls : zL) (st : zS) (h : zH), zx 188 0 ls st h = zgo 188 (zpure (.aload 6) 2 0 [] ls st h)) ∧
  (∀ (ls : zL) (st : zS) (h : zH), zx 188 2 ls st h = zgo 188 (zpure (.iconst 0) 3 0 [] ls st h)) ∧
  (∀ (ls : zL) (st : zS) (h : zH), zx 188 3 ls st h = zgo 188 (zpure (.aload_n 0) 4 0 [] ls st h)) ∧
  (∀ (ls : zL) (st : zS) (h : zH), zx 188 4 ls st h = zgo 188 (zpure (.iload_n 1) 5 0 [] ls st h)) ∧
  (∀ (ls : zL) (st : zS) (h : zH), zx 188 5 ls st h = zgo 188 (zpure (.iload_n 2) 6 0 [] ls st h)) ∧
  (∀ (ls : zL) (st : zS) (h : zH), zx 188 6 ls st h = zgo 188 (zpure (.iload_n 3) 7 0 [] ls st h)) ∧
  (∀ (ls : zL) (st : zS) (h : zH), zx 188 7 ls st h = zgo 188 (zpure (.iload 4) 9 0 [] ls st h)) ∧
  (∀ (ls : zL) (st : zS) (h : zH), zx 188 9 ls st h = zgo 188 (zpure (.iload 5) 11 0 [] ls st h)) ∧
  (∀ (ls : zL) (st : zS) (h : zH), zx 188 11 ls st h = zca 188 11 14 ls 42 7 6 (ztake 6 st) h) ∧
  (∀ (ls : zL) (st : zS) (h : zH), zx 188 14 ls st h = zgo 188 (zpure .i2l 15 0 [] ls st h)) ∧
  (∀ (ls : zL) (st : zS) (h : zH), zx 188 15 ls st h = zgo 188 (zpure .lastore 16 0 [] ls st h)) ∧
  (∀ (ls : zL) (st : zS) (h : zH), zx 188 16 ls st h = zgo 188 (zpure (.goto 11) 19 27 [] ls st h)) ∧
  (∀ (ls : zL) (st : zS) (h : zH), zx 188 19 ls st h = zgo 188 (zpure (.astore 7) 21 0 [] ls st h)) ∧
  (∀ (ls : zL) (st : zS) (h : zH), zx 188 21 ls st h = zgo 188 (zpure (.iconst 1) 22 0 [] ls st h)) ∧
  (∀ (ls : zL) (st : zS) (h : zH), zx 188 22 ls st h = zret 0 st h) ∧
  (∀ (ls : zL) (st : zS) (h : zH), zx 188 23 ls st h = zgo 188 (zpure (.astore 7) 25 0 [] ls st h)) ∧
  (∀ (ls : zL) (st : zS) (h : zH), zx 188 25 ls st h = zgo 188 (zpure (.iconst 2) 26 0 [] ls st h)) ∧
  (∀ (ls : zL) (st : zS) (h : zH), zx 188 26 ls st h = zret 0 st h) ∧
  (∀ (ls : zL) (st : zS) (h : zH), zx 188 27 ls st h = zgo 188 (zpure (.iconst 0) 28 0 [] ls st h)) ∧
  (∀ (ls : zL) (st : zS) (h : zH), zx 188 28 ls st h = zret 0 st h) :=
  ⟨zx_0 rfl, zx_0 rfl, zx_0 rfl, zx_0 rfl, zx_0 rfl, zx_0 rfl, zx_0 rfl, zx_0 rfl, zx_2c rfl, zx_0 rfl, zx_0 rfl, zx_0 rfl, zx_0 rfl, zx_0 rfl, zx_1 rfl, zx_0 rfl, zx_0 rfl, zx_1 rfl, zx_0 rfl, zx_1 rfl⟩
/-- L_addPiece -/
theorem z189 :
  (∀ (ls : zL) (st : zS) (h : zH), zx 189 0 ls st h = zgo 189 (zpure (.aload 5) 2 0 [] ls st h)) ∧
  (∀ (ls : zL) (st : zS) (h : zH), zx 189 2 ls st h = zgo 189 (zpure (.iconst 0) 3 0 [] ls st h)) ∧
  (∀ (ls : zL) (st : zS) (h : zH), zx 189 3 ls st h = zgo 189 (zpure (.aload_n 0) 4 0 [] ls st h)) ∧
  (∀ (ls : zL) (st : zS) (h : zH), zx 189 4 ls st h = zgo 189 (zpure (.iload_n 1) 5 0 [] ls st h)) ∧
  (∀ (ls : zL) (st : zS) (h : zH), zx 189 5 ls st h = zgo 189 (zpure (.iload_n 2) 6 0 [] ls st h)) ∧
  (∀ (ls : zL) (st : zS) (h : zH), zx 189 6 ls st h = zgo 189 (zpure (.iload_n 3) 7 0 [] ls st h)) ∧
  (∀ (ls : zL) (st : zS) (h : zH), zx 189 7 ls st h = zgo 189 (zpure (.iload 4) 9 0 [] ls st h)) ∧
  (∀ (ls : zL) (st : zS) (h : zH), zx 189 9 ls st h = zca 189 9 12 ls 43 6 6 (ztake 5 st) h) ∧
  (∀ (ls : zL) (st : zS) (h : zH), zx 189 12 ls st h = zgo 189 (zpure .i2l 13 0 [] ls st h)) ∧
  (∀ (ls : zL) (st : zS) (h : zH), zx 189 13 ls st h = zgo 189 (zpure .lastore 14 0 [] ls st h)) ∧
  (∀ (ls : zL) (st : zS) (h : zH), zx 189 14 ls st h = zgo 189 (zpure (.goto 11) 17 25 [] ls st h)) ∧
  (∀ (ls : zL) (st : zS) (h : zH), zx 189 17 ls st h = zgo 189 (zpure (.astore 6) 19 0 [] ls st h)) ∧
  (∀ (ls : zL) (st : zS) (h : zH), zx 189 19 ls st h = zgo 189 (zpure (.iconst 1) 20 0 [] ls st h)) ∧
  (∀ (ls : zL) (st : zS) (h : zH), zx 189 20 ls st h = zret 0 st h) ∧
  (∀ (ls : zL) (st : zS) (h : zH), zx 189 21 ls st h = zgo 189 (zpure (.astore 6) 23 0 [] ls st h)) ∧
  (∀ (ls : zL) (st : zS) (h : zH), zx 189 23 ls st h = zgo 189 (zpure (.iconst 2) 24 0 [] ls st h)) ∧
  (∀ (ls : zL) (st : zS) (h : zH), zx 189 24 ls st h = zret 0 st h) ∧
  (∀ (ls : zL) (st : zS) (h : zH), zx 189 25 ls st h = zgo 189 (zpure (.iconst 0) 26 0 [] ls st h)) ∧
  (∀ (ls : zL) (st : zS) (h : zH), zx 189 26 ls st h = zret 0 st h) :=
  ⟨zx_0 rfl, zx_0 rfl, zx_0 rfl, zx_0 rfl, zx_0 rfl, zx_0 rfl, zx_0 rfl, zx_2c rfl, zx_0 rfl, zx_0 rfl, zx_0 rfl, zx_0 rfl, zx_0 rfl, zx_1 rfl, zx_0 rfl, zx_0 rfl, zx_1 rfl, zx_0 rfl, zx_1 rfl⟩
/-- L_plays -/
theorem z190 :
  (∀ (ls : zL) (st : zS) (h : zH), zx 190 0 ls st h = zgo 190 (zpure (.aload_n 2) 1 0 [] ls st h)) ∧
  (∀ (ls : zL) (st : zS) (h : zH), zx 190 1 ls st h = zgo 190 (zpure (.iconst 0) 2 0 [] ls st h)) ∧
  (∀ (ls : zL) (st : zS) (h : zH), zx 190 2 ls st h = zgo 190 (zpure (.aload_n 0) 3 0 [] ls st h)) ∧
  (∀ (ls : zL) (st : zS) (h : zH), zx 190 3 ls st h = zgo 190 (zpure (.iload_n 1) 4 0 [] ls st h)) ∧
  (∀ (ls : zL) (st : zS) (h : zH), zx 190 4 ls st h = zca 190 4 7 ls 44 2 6 (ztake 2 st) h) ∧
  (∀ (ls : zL) (st : zS) (h : zH), zx 190 7 ls st h = zgo 190 (zpure .i2l 8 0 [] ls st h)) ∧
  (∀ (ls : zL) (st : zS) (h : zH), zx 190 8 ls st h = zgo 190 (zpure .lastore 9 0 [] ls st h)) ∧
  (∀ (ls : zL) (st : zS) (h : zH), zx 190 9 ls st h = zgo 190 (zpure (.goto 9) 12 18 [] ls st h)) ∧
  (∀ (ls : zL) (st : zS) (h : zH), zx 190 12 ls st h = zgo 190 (zpure (.astore_n 3) 13 0 [] ls st h)) ∧
  (∀ (ls : zL) (st : zS) (h : zH), zx 190 13 ls st h = zgo 190 (zpure (.iconst 1) 14 0 [] ls st h)) ∧
  (∀ (ls : zL) (st : zS) (h : zH), zx 190 14 ls st h = zret 0 st h) ∧
  (∀ (ls : zL) (st : zS) (h : zH), zx 190 15 ls st h = zgo 190 (zpure (.astore_n 3) 16 0 [] ls st h)) ∧
  (∀ (ls : zL) (st : zS) (h : zH), zx 190 16 ls st h = zgo 190 (zpure (.iconst 2) 17 0 [] ls st h)) ∧
  (∀ (ls : zL) (st : zS) (h : zH), zx 190 17 ls st h = zret 0 st h) ∧
  (∀ (ls : zL) (st : zS) (h : zH), zx 190 18 ls st h = zgo 190 (zpure (.iconst 0) 19 0 [] ls st h)) ∧
  (∀ (ls : zL) (st : zS) (h : zH), zx 190 19 ls st h = zret 0 st h) :=
  ⟨zx_0 rfl, zx_0 rfl, zx_0 rfl, zx_0 rfl, zx_2c rfl, zx_0 rfl, zx_0 rfl, zx_0 rfl, zx_0 rfl, zx_0 rfl, zx_1 rfl, zx_0 rfl, zx_0 rfl, zx_1 rfl, zx_0 rfl, zx_1 rfl⟩
/-- L_addPlays -/
theorem z191 :
  (∀ (ls : zL) (st : zS) (h : zH), zx 191 0 ls st h = zgo 191 (zpure (.aload_n 3) 1 0 [] ls st h)) ∧
  (∀ (ls : zL) (st : zS) (h : zH), zx 191 1 ls st h = zgo 191 (zpure (.iconst 0) 2 0 [] ls st h)) ∧
  (∀ (ls : zL) (st : zS) (h : zH), zx 191 2 ls st h = zgo 191 (zpure (.aload_n 0) 3 0 [] ls st h)) ∧
  (∀ (ls : zL) (st : zS) (h : zH), zx 191 3 ls st h = zgo 191 (zpure (.iload_n 1) 4 0 [] ls st h)) ∧
  (∀ (ls : zL) (st : zS) (h : zH), zx 191 4 ls st h = zgo 191 (zpure (.iload_n 2) 5 0 [] ls st h)) ∧
  (∀ (ls : zL) (st : zS) (h : zH), zx 191 5 ls st h = zca 191 5 8 ls 45 4 6 (ztake 3 st) h) ∧
  (∀ (ls : zL) (st : zS) (h : zH), zx 191 8 ls st h = zgo 191 (zpure .i2l 9 0 [] ls st h)) ∧
  (∀ (ls : zL) (st : zS) (h : zH), zx 191 9 ls st h = zgo 191 (zpure .lastore 10 0 [] ls st h)) ∧
  (∀ (ls : zL) (st : zS) (h : zH), zx 191 10 ls st h = zgo 191 (zpure (.goto 15) 13 25 [] ls st h)) ∧
  (∀ (ls : zL) (st : zS) (h : zH), zx 191 13 ls st h = zgo 191 (zpure (.astore 4) 15 0 [] ls st h)) ∧
  (∀ (ls : zL) (st : zS) (h : zH), zx 191 15 ls st h = zgo 191 (zpure (.iconst 1) 16 0 [] ls st h)) ∧
  (∀ (ls : zL) (st : zS) (h : zH), zx 191 16 ls st h = zret 0 st h) ∧
  (∀ (ls : zL) (st : zS) (h : zH), zx 191 17 ls st h = zgo 191 (zpure (.astore 4) 19 0 [] ls st h)) ∧
  (∀ (ls : zL) (st : zS) (h : zH), zx 191 19 ls st h = zgo 191 (zpure (.iconst 2) 20 0 [] ls st h)) ∧
  (∀ (ls : zL) (st : zS) (h : zH), zx 191 20 ls st h = zret 0 st h) ∧
  (∀ (ls : zL) (st : zS) (h : zH), zx 191 21 ls st h = zgo 191 (zpure (.astore 4) 23 0 [] ls st h)) ∧
  (∀ (ls : zL) (st : zS) (h : zH), zx 191 23 ls st h = zgo 191 (zpure (.iconst 3) 24 0 [] ls st h)) ∧
  (∀ (ls : zL) (st : zS) (h : zH), zx 191 24 ls st h = zret 0 st h) ∧
  (∀ (ls : zL) (st : zS) (h : zH), zx 191 25 ls st h = zgo 191 (zpure (.iconst 0) 26 0 [] ls st h)) ∧
  (∀ (ls : zL) (st : zS) (h : zH), zx 191 26 ls st h = zret 0 st h) :=
  ⟨zx_0 rfl, zx_0 rfl, zx_0 rfl, zx_0 rfl, zx_0 rfl, zx_2c rfl, zx_0 rfl, zx_0 rfl, zx_0 rfl, zx_0 rfl, zx_0 rfl, zx_1 rfl, zx_0 rfl, zx_0 rfl, zx_1 rfl, zx_0 rfl, zx_0 rfl, zx_1 rfl, zx_0 rfl, zx_1 rfl⟩
/-- L_insert -/
theorem z192 :
  (∀ (ls : zL) (st : zS) (h : zH), zx 192 0 ls st h = zgo 192 (zpure (.aload 5) 2 0 [] ls st h)) ∧
  (∀ (ls : zL) (st : zS) (h : zH), zx 192 2 ls st h = zgo 192 (zpure (.iconst 0) 3 0 [] ls st h)) ∧
  (∀ (ls : zL) (st : zS) (h : zH), zx 192 3 ls st h = zgo 192 (zpure (.aload_n 0) 4 0 [] ls st h)) ∧
  (∀ (ls : zL) (st : zS) (h : zH), zx 192 4 ls st h = zgo 192 (zpure (.iload_n 1) 5 0 [] ls st h)) ∧
  (∀ (ls : zL) (st : zS) (h : zH), zx 192 5 ls st h = zgo 192 (zpure (.iload_n 2) 6 0 [] ls st h)) ∧
  (∀ (ls : zL) (st : zS) (h : zH), zx 192 6 ls st h = zgo 192 (zpure (.iload_n 3) 7 0 [] ls st h)) ∧
  (∀ (ls : zL) (st : zS) (h : zH), zx 192 7 ls st h = zgo 192 (zpure (.iload 4) 9 0 [] ls st h)) ∧
  (∀ (ls : zL) (st : zS) (h : zH), zx 192 9 ls st h = zca 192 9 12 ls 46 6 6 (ztake 5 st) h) ∧
  (∀ (ls : zL) (st : zS) (h : zH), zx 192 12 ls st h = zgo 192 (zpure .i2l 13 0 [] ls st h)) ∧
  (∀ (ls : zL) (st : zS) (h : zH), zx 192 13 ls st h = zgo 192 (zpure .lastore 14 0 [] ls st h)) ∧
  (∀ (ls : zL) (st : zS) (h : zH), zx 192 14 ls st h = zgo 192 (zpure (.goto 19) 17 33 [] ls st h)) ∧
  (∀ (ls : zL) (st : zS) (h : zH), zx 192 17 ls st h = zgo 192 (zpure (.astore 6) 19 0 [] ls st h)) ∧
  (∀ (ls : zL) (st : zS) (h : zH), zx 192 19 ls st h = zgo 192 (zpure (.iconst 1) 20 0 [] ls st h)) ∧
  (∀ (ls : zL) (st : zS) (h : zH), zx 192 20 ls st h = zret 0 st h) ∧
  (∀ (ls : zL) (st : zS) (h : zH), zx 192 21 ls st h = zgo 192 (zpure (.astore 6) 23 0 [] ls st h)) ∧
  (∀ (ls : zL) (st : zS) (h : zH), zx 192 23 ls st h = zgo 192 (zpure (.iconst 2) 24 0 [] ls st h)) ∧
  (∀ (ls : zL) (st : zS) (h : zH), zx 192 24 ls st h = zret 0 st h) ∧
  (∀ (ls : zL) (st : zS) (h : zH), zx 192 25 ls st h = zgo 192 (zpure (.astore 6) 27 0 [] ls st h)) ∧
  (∀ (ls : zL) (st : zS) (h : zH), zx 192 27 ls st h = zgo 192 (zpure (.iconst 3) 28 0 [] ls st h)) ∧
  (∀ (ls : zL) (st : zS) (h : zH), zx 192 28 ls st h = zret 0 st h) ∧
  (∀ (ls : zL) (st : zS) (h : zH), zx 192 29 ls st h = zgo 192 (zpure (.astore 6) 31 0 [] ls st h)) ∧
  (∀ (ls : zL) (st : zS) (h : zH), zx 192 31 ls st h = zgo 192 (zpure (.iconst 4) 32 0 [] ls st h)) ∧
  (∀ (ls : zL) (st : zS) (h : zH), zx 192 32 ls st h = zret 0 st h) ∧
  (∀ (ls : zL) (st : zS) (h : zH), zx 192 33 ls st h = zgo 192 (zpure (.iconst 0) 34 0 [] ls st h)) ∧
  (∀ (ls : zL) (st : zS) (h : zH), zx 192 34 ls st h = zret 0 st h) :=
  ⟨zx_0 rfl, zx_0 rfl, zx_0 rfl, zx_0 rfl, zx_0 rfl, zx_0 rfl, zx_0 rfl, zx_2c rfl, zx_0 rfl, zx_0 rfl, zx_0 rfl, zx_0 rfl, zx_0 rfl, zx_1 rfl, zx_0 rfl, zx_0 rfl, zx_1 rfl, zx_0 rfl, zx_0 rfl, zx_1 rfl, zx_0 rfl, zx_0 rfl, zx_1 rfl, zx_0 rfl, zx_1 rfl⟩
/-- L_remove -/
theorem z193 :
  (∀ (ls : zL) (st : zS) (h : zH), zx 193 0 ls st h = zgo 193 (zpure (.aload_n 2) 1 0 [] ls st h)) ∧
  (∀ (ls : zL) (st : zS) (h : zH), zx 193 1 ls st h = zgo 193 (zpure (.iconst 0) 2 0 [] ls st h)) ∧
  (∀ (ls : zL) (st : zS) (h : zH), zx 193 2 ls st h = zgo 193 (zpure (.aload_n 0) 3 0 [] ls st h)) ∧
  (∀ (ls : zL) (st : zS) (h : zH), zx 193 3 ls st h = zgo 193 (zpure (.iload_n 1) 4 0 [] ls st h)) ∧
  (∀ (ls : zL) (st : zS) (h : zH), zx 193 4 ls st h = zca 193 4 7 ls 47 2 6 (ztake 2 st) h) ∧
  (∀ (ls : zL) (st : zS) (h : zH), zx 193 7 ls st h = zgo 193 (zpure .i2l 8 0 [] ls st h)) ∧
  (∀ (ls : zL) (st : zS) (h : zH), zx 193 8 ls st h = zgo 193 (zpure .lastore 9 0 [] ls st h)) ∧
  (∀ (ls : zL) (st : zS) (h : zH), zx 193 9 ls st h = zgo 193 (zpure (.goto 6) 12 15 [] ls st h)) ∧
  (∀ (ls : zL) (st : zS) (h : zH), zx 193 12 ls st h = zgo 193 (zpure (.astore_n 3) 13 0 [] ls st h)) ∧
  (∀ (ls : zL) (st : zS) (h : zH), zx 193 13 ls st h = zgo 193 (zpure (.iconst 1) 14 0 [] ls st h)) ∧
  (∀ (ls : zL) (st : zS) (h : zH), zx 193 14 ls st h = zret 0 st h) ∧
  (∀ (ls : zL) (st : zS) (h : zH), zx 193 15 ls st h = zgo 193 (zpure (.iconst 0) 16 0 [] ls st h)) ∧
  (∀ (ls : zL) (st : zS) (h : zH), zx 193 16 ls st h = zret 0 st h) :=
  ⟨zx_0 rfl, zx_0 rfl, zx_0 rfl, zx_0 rfl, zx_2c rfl, zx_0 rfl, zx_0 rfl, zx_0 rfl, zx_0 rfl, zx_0 rfl, zx_1 rfl, zx_0 rfl, zx_1 rfl⟩
/-- L_move -/
theorem z194 :
  (∀ (ls : zL) (st : zS) (h : zH), zx 194 0 ls st h = zgo 194 (zpure (.aload_n 3) 1 0 [] ls st h)) ∧
  (∀ (ls : zL) (st : zS) (h : zH), zx 194 1 ls st h = zgo 194 (zpure (.iconst 0) 2 0 [] ls st h)) ∧
  (∀ (ls : zL) (st : zS) (h : zH), zx 194 2 ls st h = zgo 194 (zpure (.aload_n 0) 3 0 [] ls st h)) ∧
  (∀ (ls : zL) (st : zS) (h : zH), zx 194 3 ls st h = zgo 194 (zpure (.iload_n 1) 4 0 [] ls st h)) ∧
  (∀ (ls : zL) (st : zS) (h : zH), zx 194 4 ls st h = zgo 194 (zpure (.iload_n 2) 5 0 [] ls st h)) ∧
  (∀ (ls : zL) (st : zS) (h : zH), zx 194 5 ls st h = zca 194 5 8 ls 48 4 6 (ztake 3 st) h) ∧
  (∀ (ls : zL) (st : zS) (h : zH), zx 194 8 ls st h = zgo 194 (zpure .i2l 9 0 [] ls st h)) ∧
  (∀ (ls : zL) (st : zS) (h : zH), zx 194 9 ls st h = zgo 194 (zpure .lastore 10 0 [] ls st h)) ∧
  (∀ (ls : zL) (st : zS) (h : zH), zx 194 10 ls st h = zgo 194 (zpure (.goto 7) 13 17 [] ls st h)) ∧
  (∀ (ls : zL) (st : zS) (h : zH), zx 194 13 ls st h = zgo 194 (zpure (.astore 4) 15 0 [] ls st h)) ∧
  (∀ (ls : zL) (st : zS) (h : zH), zx 194 15 ls st h = zgo 194 (zpure (.iconst 1) 16 0 [] ls st h)) ∧
  (∀ (ls : zL) (st : zS) (h : zH), zx 194 16 ls st h = zret 0 st h) ∧
  (∀ (ls : zL) (st : zS) (h : zH), zx 194 17 ls st h = zgo 194 (zpure (.iconst 0) 18 0 [] ls st h)) ∧
  (∀ (ls : zL) (st : zS) (h : zH), zx 194 18 ls st h = zret 0 st h) :=
  ⟨zx_0 rfl, zx_0 rfl, zx_0 rfl, zx_0 rfl, zx_0 rfl, zx_2c rfl, zx_0 rfl, zx_0 rfl, zx_0 rfl, zx_0 rfl, zx_0 rfl, zx_1 rfl, zx_0 rfl, zx_1 rfl⟩
/-- L_setOverrun -/
theorem z195 :
  (∀ (ls : zL) (st : zS) (h : zH), zx 195 0 ls st h = zgo 195 (zpure (.aload_n 3) 1 0 [] ls st h)) ∧
  (∀ (ls : zL) (st : zS) (h : zH), zx 195 1 ls st h = zgo 195 (zpure (.iconst 0) 2 0 [] ls st h)) ∧
  (∀ (ls : zL) (st : zS) (h : zH), zx 195 2 ls st h = zgo 195 (zpure (.aload_n 0) 3 0 [] ls st h)) ∧
  (∀ (ls : zL) (st : zS) (h : zH), zx 195 3 ls st h = zgo 195 (zpure (.iload_n 1) 4 0 [] ls st h)) ∧
  (∀ (ls : zL) (st : zS) (h : zH), zx 195 4 ls st h = zgo 195 (zpure (.iload_n 2) 5 0 [] ls st h)) ∧
  (∀ (ls : zL) (st : zS) (h : zH), zx 195 5 ls st h = zca 195 5 8 ls 49 5 6 (ztake 3 st) h) ∧
  (∀ (ls : zL) (st : zS) (h : zH), zx 195 8 ls st h = zgo 195 (zpure .i2l 9 0 [] ls st h)) ∧
  (∀ (ls : zL) (st : zS) (h : zH), zx 195 9 ls st h = zgo 195 (zpure .lastore 10 0 [] ls st h)) ∧
  (∀ (ls : zL) (st : zS) (h : zH), zx 195 10 ls st h = zgo 195 (zpure (.goto 11) 13 21 [] ls st h)) ∧
  (∀ (ls : zL) (st : zS) (h : zH), zx 195 13 ls st h = zgo 195 (zpure (.astore 4) 15 0 [] ls st h)) ∧
  (∀ (ls : zL) (st : zS) (h : zH), zx 195 15 ls st h = zgo 195 (zpure (.iconst 1) 16 0 [] ls st h)) ∧
  (∀ (ls : zL) (st : zS) (h : zH), zx 195 16 ls st h = zret 0 st h) ∧
  (∀ (ls : zL) (st : zS) (h : zH), zx 195 17 ls st h = zgo 195 (zpure (.astore 4) 19 0 [] ls st h)) ∧
  (∀ (ls : zL) (st : zS) (h : zH), zx 195 19 ls st h = zgo 195 (zpure (.iconst 2) 20 0 [] ls st h)) ∧
  (∀ (ls : zL) (st : zS) (h : zH), zx 195 20 ls st h = zret 0 st h) ∧
  (∀ (ls : zL) (st : zS) (h : zH), zx 195 21 ls st h = zgo 195 (zpure (.iconst 0) 22 0 [] ls st h)) ∧
  (∀ (ls : zL) (st : zS) (h : zH), zx 195 22 ls st h = zret 0 st h) :=
  ⟨zx_0 rfl, zx_0 rfl, zx_0 rfl, zx_0 rfl, zx_0 rfl, zx_2c rfl, zx_0 rfl, zx_0 rfl, zx_0 rfl, zx_0 rfl, zx_0 rfl, zx_1 rfl, zx_0 rfl, zx_0 rfl, zx_1 rfl, zx_0 rfl, zx_1 rfl⟩
/-- L_attach -/
theorem z196 :
  (∀ (ls : zL) (st : zS) (h : zH), zx 196 0 ls st h = zgo 196 (zpure (.aload 5) 2 0 [] ls st h)) ∧
  (∀ (ls : zL) (st : zS) (h : zH), zx 196 2 ls st h = zgo 196 (zpure (.iconst 0) 3 0 [] ls st h)) ∧
  (∀ (ls : zL) (st : zS) (h : zH), zx 196 3 ls st h = zgo 196 (zpure (.aload_n 0) 4 0 [] ls st h)) ∧
  (∀ (ls : zL) (st : zS) (h : zH), zx 196 4 ls st h = zgo 196 (zpure (.iload_n 1) 5 0 [] ls st h)) ∧
  (∀ (ls : zL) (st : zS) (h : zH), zx 196 5 ls st h = zgo 196 (zpure (.iload_n 2) 6 0 [] ls st h)) ∧
  (∀ (ls : zL) (st : zS) (h : zH), zx 196 6 ls st h = zgo 196 (zpure (.iload_n 3) 7 0 [] ls st h)) ∧
  (∀ (ls : zL) (st : zS) (h : zH), zx 196 7 ls st h = zgo 196 (zpure (.iload 4) 9 0 [] ls st h)) ∧
  (∀ (ls : zL) (st : zS) (h : zH), zx 196 9 ls st h = zca 196 9 12 ls 50 6 6 (ztake 5 st) h) ∧
  (∀ (ls : zL) (st : zS) (h : zH), zx 196 12 ls st h = zgo 196 (zpure .i2l 13 0 [] ls st h)) ∧
  (∀ (ls : zL) (st : zS) (h : zH), zx 196 13 ls st h = zgo 196 (zpure .lastore 14 0 [] ls st h)) ∧
  (∀ (ls : zL) (st : zS) (h : zH), zx 196 14 ls st h = zgo 196 (zpure (.goto 15) 17 29 [] ls st h)) ∧
  (∀ (ls : zL) (st : zS) (h : zH), zx 196 17 ls st h = zgo 196 (zpure (.astore 6) 19 0 [] ls st h)) ∧
  (∀ (ls : zL) (st : zS) (h : zH), zx 196 19 ls st h = zgo 196 (zpure (.iconst 1) 20 0 [] ls st h)) ∧
  (∀ (ls : zL) (st : zS) (h : zH), zx 196 20 ls st h = zret 0 st h) ∧
  (∀ (ls : zL) (st : zS) (h : zH), zx 196 21 ls st h = zgo 196 (zpure (.astore 6) 23 0 [] ls st h)) ∧
  (∀ (ls : zL) (st : zS) (h : zH), zx 196 23 ls st h = zgo 196 (zpure (.iconst 2) 24 0 [] ls st h)) ∧
  (∀ (ls : zL) (st : zS) (h : zH), zx 196 24 ls st h = zret 0 st h) ∧
  (∀ (ls : zL) (st : zS) (h : zH), zx 196 25 ls st h = zgo 196 (zpure (.astore 6) 27 0 [] ls st h)) ∧
  (∀ (ls : zL) (st : zS) (h : zH), zx 196 27 ls st h = zgo 196 (zpure (.iconst 3) 28 0 [] ls st h)) ∧
  (∀ (ls : zL) (st : zS) (h : zH), zx 196 28 ls st h = zret 0 st h) ∧
  (∀ (ls : zL) (st : zS) (h : zH), zx 196 29 ls st h = zgo 196 (zpure (.iconst 0) 30 0 [] ls st h)) ∧
  (∀ (ls : zL) (st : zS) (h : zH), zx 196 30 ls st h = zret 0 st h) :=
  ⟨zx_0 rfl, zx_0 rfl, zx_0 rfl, zx_0 rfl, zx_0 rfl, zx_0 rfl, zx_0 rfl, zx_2c rfl, zx_0 rfl, zx_0 rfl, zx_0 rfl, zx_0 rfl, zx_0 rfl, zx_1 rfl, zx_0 rfl, zx_0 rfl, zx_1 rfl, zx_0 rfl, zx_0 rfl, zx_1 rfl, zx_0 rfl, zx_1 rfl⟩
/-- L_programme -/
theorem z197 :
  (∀ (ls : zL) (st : zS) (h : zH), zx 197 0 ls st h = zgo 197 (zpure (.aload_n 2) 1 0 [] ls st h)) ∧
  (∀ (ls : zL) (st : zS) (h : zH), zx 197 1 ls st h = zgo 197 (zpure (.iconst 0) 2 0 [] ls st h)) ∧
  (∀ (ls : zL) (st : zS) (h : zH), zx 197 2 ls st h = zgo 197 (zpure (.aload_n 0) 3 0 [] ls st h)) ∧
  (∀ (ls : zL) (st : zS) (h : zH), zx 197 3 ls st h = zgo 197 (zpure (.iload_n 1) 4 0 [] ls st h)) ∧
  (∀ (ls : zL) (st : zS) (h : zH), zx 197 4 ls st h = zca 197 4 7 ls 52 2 6 (ztake 2 st) h) ∧
  (∀ (ls : zL) (st : zS) (h : zH), zx 197 7 ls st h = zgo 197 (zpure .i2l 8 0 [] ls st h)) ∧
  (∀ (ls : zL) (st : zS) (h : zH), zx 197 8 ls st h = zgo 197 (zpure .lastore 9 0 [] ls st h)) ∧
  (∀ (ls : zL) (st : zS) (h : zH), zx 197 9 ls st h = zgo 197 (zpure (.goto 6) 12 15 [] ls st h)) ∧
  (∀ (ls : zL) (st : zS) (h : zH), zx 197 12 ls st h = zgo 197 (zpure (.astore_n 3) 13 0 [] ls st h)) ∧
  (∀ (ls : zL) (st : zS) (h : zH), zx 197 13 ls st h = zgo 197 (zpure (.iconst 1) 14 0 [] ls st h)) ∧
  (∀ (ls : zL) (st : zS) (h : zH), zx 197 14 ls st h = zret 0 st h) ∧
  (∀ (ls : zL) (st : zS) (h : zH), zx 197 15 ls st h = zgo 197 (zpure (.iconst 0) 16 0 [] ls st h)) ∧
  (∀ (ls : zL) (st : zS) (h : zH), zx 197 16 ls st h = zret 0 st h) :=
  ⟨zx_0 rfl, zx_0 rfl, zx_0 rfl, zx_0 rfl, zx_2c rfl, zx_0 rfl, zx_0 rfl, zx_0 rfl, zx_0 rfl, zx_0 rfl, zx_1 rfl, zx_0 rfl, zx_1 rfl⟩
/-- L_fate -/
theorem z198 :
  (∀ (ls : zL) (st : zS) (h : zH), zx 198 0 ls st h = zgo 198 (zpure (.aload_n 2) 1 0 [] ls st h)) ∧
  (∀ (ls : zL) (st : zS) (h : zH), zx 198 1 ls st h = zgo 198 (zpure (.iconst 0) 2 0 [] ls st h)) ∧
  (∀ (ls : zL) (st : zS) (h : zH), zx 198 2 ls st h = zgo 198 (zpure (.aload_n 0) 3 0 [] ls st h)) ∧
  (∀ (ls : zL) (st : zS) (h : zH), zx 198 3 ls st h = zgo 198 (zpure (.iload_n 1) 4 0 [] ls st h)) ∧
  (∀ (ls : zL) (st : zS) (h : zH), zx 198 4 ls st h = zca 198 4 7 ls 53 3 6 (ztake 2 st) h) ∧
  (∀ (ls : zL) (st : zS) (h : zH), zx 198 7 ls st h = zgo 198 (zpure .i2l 8 0 [] ls st h)) ∧
  (∀ (ls : zL) (st : zS) (h : zH), zx 198 8 ls st h = zgo 198 (zpure .lastore 9 0 [] ls st h)) ∧
  (∀ (ls : zL) (st : zS) (h : zH), zx 198 9 ls st h = zgo 198 (zpure (.goto 6) 12 15 [] ls st h)) ∧
  (∀ (ls : zL) (st : zS) (h : zH), zx 198 12 ls st h = zgo 198 (zpure (.astore_n 3) 13 0 [] ls st h)) ∧
  (∀ (ls : zL) (st : zS) (h : zH), zx 198 13 ls st h = zgo 198 (zpure (.iconst 1) 14 0 [] ls st h)) ∧
  (∀ (ls : zL) (st : zS) (h : zH), zx 198 14 ls st h = zret 0 st h) ∧
  (∀ (ls : zL) (st : zS) (h : zH), zx 198 15 ls st h = zgo 198 (zpure (.iconst 0) 16 0 [] ls st h)) ∧
  (∀ (ls : zL) (st : zS) (h : zH), zx 198 16 ls st h = zret 0 st h) :=
  ⟨zx_0 rfl, zx_0 rfl, zx_0 rfl, zx_0 rfl, zx_2c rfl, zx_0 rfl, zx_0 rfl, zx_0 rfl, zx_0 rfl, zx_0 rfl, zx_1 rfl, zx_0 rfl, zx_1 rfl⟩
/-- L_startOf -/
theorem z199 :
  (∀ (ls : zL) (st : zS) (h : zH), zx 199 0 ls st h = zgo 199 (zpure (.aload_n 2) 1 0 [] ls st h)) ∧
  (∀ (ls : zL) (st : zS) (h : zH), zx 199 1 ls st h = zgo 199 (zpure (.iconst 0) 2 0 [] ls st h)) ∧
  (∀ (ls : zL) (st : zS) (h : zH), zx 199 2 ls st h = zgo 199 (zpure (.aload_n 0) 3 0 [] ls st h)) ∧
  (∀ (ls : zL) (st : zS) (h : zH), zx 199 3 ls st h = zgo 199 (zpure (.iload_n 1) 4 0 [] ls st h)) ∧
  (∀ (ls : zL) (st : zS) (h : zH), zx 199 4 ls st h = zca 199 4 7 ls 54 2 6 (ztake 2 st) h) ∧
  (∀ (ls : zL) (st : zS) (h : zH), zx 199 7 ls st h = zgo 199 (zpure .i2l 8 0 [] ls st h)) ∧
  (∀ (ls : zL) (st : zS) (h : zH), zx 199 8 ls st h = zgo 199 (zpure .lastore 9 0 [] ls st h)) ∧
  (∀ (ls : zL) (st : zS) (h : zH), zx 199 9 ls st h = zgo 199 (zpure (.goto 9) 12 18 [] ls st h)) ∧
  (∀ (ls : zL) (st : zS) (h : zH), zx 199 12 ls st h = zgo 199 (zpure (.astore_n 3) 13 0 [] ls st h)) ∧
  (∀ (ls : zL) (st : zS) (h : zH), zx 199 13 ls st h = zgo 199 (zpure (.iconst 1) 14 0 [] ls st h)) ∧
  (∀ (ls : zL) (st : zS) (h : zH), zx 199 14 ls st h = zret 0 st h) ∧
  (∀ (ls : zL) (st : zS) (h : zH), zx 199 15 ls st h = zgo 199 (zpure (.astore_n 3) 16 0 [] ls st h)) ∧
  (∀ (ls : zL) (st : zS) (h : zH), zx 199 16 ls st h = zgo 199 (zpure (.iconst 2) 17 0 [] ls st h)) ∧
  (∀ (ls : zL) (st : zS) (h : zH), zx 199 17 ls st h = zret 0 st h) ∧
  (∀ (ls : zL) (st : zS) (h : zH), zx 199 18 ls st h = zgo 199 (zpure (.iconst 0) 19 0 [] ls st h)) ∧
  (∀ (ls : zL) (st : zS) (h : zH), zx 199 19 ls st h = zret 0 st h) :=
  ⟨zx_0 rfl, zx_0 rfl, zx_0 rfl, zx_0 rfl, zx_2c rfl, zx_0 rfl, zx_0 rfl, zx_0 rfl, zx_0 rfl, zx_0 rfl, zx_1 rfl, zx_0 rfl, zx_0 rfl, zx_1 rfl, zx_0 rfl, zx_1 rfl⟩
/-- L_endOf -/
theorem z200 :
  (∀ (ls : zL) (st : zS) (h : zH), zx 200 0 ls st h = zgo 200 (zpure (.aload_n 2) 1 0 [] ls st h)) ∧
  (∀ (ls : zL) (st : zS) (h : zH), zx 200 1 ls st h = zgo 200 (zpure (.iconst 0) 2 0 [] ls st h)) ∧
  (∀ (ls : zL) (st : zS) (h : zH), zx 200 2 ls st h = zgo 200 (zpure (.aload_n 0) 3 0 [] ls st h)) ∧
  (∀ (ls : zL) (st : zS) (h : zH), zx 200 3 ls st h = zgo 200 (zpure (.iload_n 1) 4 0 [] ls st h)) ∧
  (∀ (ls : zL) (st : zS) (h : zH), zx 200 4 ls st h = zca 200 4 7 ls 55 2 6 (ztake 2 st) h) ∧
  (∀ (ls : zL) (st : zS) (h : zH), zx 200 7 ls st h = zgo 200 (zpure .i2l 8 0 [] ls st h)) ∧
  (∀ (ls : zL) (st : zS) (h : zH), zx 200 8 ls st h = zgo 200 (zpure .lastore 9 0 [] ls st h)) ∧
  (∀ (ls : zL) (st : zS) (h : zH), zx 200 9 ls st h = zgo 200 (zpure (.goto 9) 12 18 [] ls st h)) ∧
  (∀ (ls : zL) (st : zS) (h : zH), zx 200 12 ls st h = zgo 200 (zpure (.astore_n 3) 13 0 [] ls st h)) ∧
  (∀ (ls : zL) (st : zS) (h : zH), zx 200 13 ls st h = zgo 200 (zpure (.iconst 1) 14 0 [] ls st h)) ∧
  (∀ (ls : zL) (st : zS) (h : zH), zx 200 14 ls st h = zret 0 st h) ∧
  (∀ (ls : zL) (st : zS) (h : zH), zx 200 15 ls st h = zgo 200 (zpure (.astore_n 3) 16 0 [] ls st h)) ∧
  (∀ (ls : zL) (st : zS) (h : zH), zx 200 16 ls st h = zgo 200 (zpure (.iconst 2) 17 0 [] ls st h)) ∧
  (∀ (ls : zL) (st : zS) (h : zH), zx 200 17 ls st h = zret 0 st h) ∧
  (∀ (ls : zL) (st : zS) (h : zH), zx 200 18 ls st h = zgo 200 (zpure (.iconst 0) 19 0 [] ls st h)) ∧
  (∀ (ls : zL) (st : zS) (h : zH), zx 200 19 ls st h = zret 0 st h) :=
  ⟨zx_0 rfl, zx_0 rfl, zx_0 rfl, zx_0 rfl, zx_2c rfl, zx_0 rfl, zx_0 rfl, zx_0 rfl, zx_0 rfl, zx_0 rfl, zx_1 rfl, zx_0 rfl, zx_0 rfl, zx_1 rfl, zx_0 rfl, zx_1 rfl⟩
/-- L_spanClip -/
theorem z201 :
  (∀ (ls : zL) (st : zS) (h : zH), zx 201 0 ls st h = zgo 201 (zpure (.aload_n 2) 1 0 [] ls st h)) ∧
  (∀ (ls : zL) (st : zS) (h : zH), zx 201 1 ls st h = zgo 201 (zpure (.iconst 0) 2 0 [] ls st h)) ∧
  (∀ (ls : zL) (st : zS) (h : zH), zx 201 2 ls st h = zgo 201 (zpure (.aload_n 0) 3 0 [] ls st h)) ∧
  (∀ (ls : zL) (st : zS) (h : zH), zx 201 3 ls st h = zgo 201 (zpure (.iload_n 1) 4 0 [] ls st h)) ∧
  (∀ (ls : zL) (st : zS) (h : zH), zx 201 4 ls st h = zca 201 4 7 ls 57 2 6 (ztake 2 st) h) ∧
  (∀ (ls : zL) (st : zS) (h : zH), zx 201 7 ls st h = zgo 201 (zpure .i2l 8 0 [] ls st h)) ∧
  (∀ (ls : zL) (st : zS) (h : zH), zx 201 8 ls st h = zgo 201 (zpure .lastore 9 0 [] ls st h)) ∧
  (∀ (ls : zL) (st : zS) (h : zH), zx 201 9 ls st h = zgo 201 (zpure (.goto 6) 12 15 [] ls st h)) ∧
  (∀ (ls : zL) (st : zS) (h : zH), zx 201 12 ls st h = zgo 201 (zpure (.astore_n 3) 13 0 [] ls st h)) ∧
  (∀ (ls : zL) (st : zS) (h : zH), zx 201 13 ls st h = zgo 201 (zpure (.iconst 1) 14 0 [] ls st h)) ∧
  (∀ (ls : zL) (st : zS) (h : zH), zx 201 14 ls st h = zret 0 st h) ∧
  (∀ (ls : zL) (st : zS) (h : zH), zx 201 15 ls st h = zgo 201 (zpure (.iconst 0) 16 0 [] ls st h)) ∧
  (∀ (ls : zL) (st : zS) (h : zH), zx 201 16 ls st h = zret 0 st h) :=
  ⟨zx_0 rfl, zx_0 rfl, zx_0 rfl, zx_0 rfl, zx_2c rfl, zx_0 rfl, zx_0 rfl, zx_0 rfl, zx_0 rfl, zx_0 rfl, zx_1 rfl, zx_0 rfl, zx_1 rfl⟩
/-- L_spanStart -/
theorem z202 :
  (∀ (ls : zL) (st : zS) (h : zH), zx 202 0 ls st h = zgo 202 (zpure (.aload_n 2) 1 0 [] ls st h)) ∧
  (∀ (ls : zL) (st : zS) (h : zH), zx 202 1 ls st h = zgo 202 (zpure (.iconst 0) 2 0 [] ls st h)) ∧
  (∀ (ls : zL) (st : zS) (h : zH), zx 202 2 ls st h = zgo 202 (zpure (.aload_n 0) 3 0 [] ls st h)) ∧
  (∀ (ls : zL) (st : zS) (h : zH), zx 202 3 ls st h = zgo 202 (zpure (.iload_n 1) 4 0 [] ls st h)) ∧
  (∀ (ls : zL) (st : zS) (h : zH), zx 202 4 ls st h = zca 202 4 7 ls 58 2 6 (ztake 2 st) h) ∧
  (∀ (ls : zL) (st : zS) (h : zH), zx 202 7 ls st h = zgo 202 (zpure .i2l 8 0 [] ls st h)) ∧
  (∀ (ls : zL) (st : zS) (h : zH), zx 202 8 ls st h = zgo 202 (zpure .lastore 9 0 [] ls st h)) ∧
  (∀ (ls : zL) (st : zS) (h : zH), zx 202 9 ls st h = zgo 202 (zpure (.goto 6) 12 15 [] ls st h)) ∧
  (∀ (ls : zL) (st : zS) (h : zH), zx 202 12 ls st h = zgo 202 (zpure (.astore_n 3) 13 0 [] ls st h)) ∧
  (∀ (ls : zL) (st : zS) (h : zH), zx 202 13 ls st h = zgo 202 (zpure (.iconst 1) 14 0 [] ls st h)) ∧
  (∀ (ls : zL) (st : zS) (h : zH), zx 202 14 ls st h = zret 0 st h) ∧
  (∀ (ls : zL) (st : zS) (h : zH), zx 202 15 ls st h = zgo 202 (zpure (.iconst 0) 16 0 [] ls st h)) ∧
  (∀ (ls : zL) (st : zS) (h : zH), zx 202 16 ls st h = zret 0 st h) :=
  ⟨zx_0 rfl, zx_0 rfl, zx_0 rfl, zx_0 rfl, zx_2c rfl, zx_0 rfl, zx_0 rfl, zx_0 rfl, zx_0 rfl, zx_0 rfl, zx_1 rfl, zx_0 rfl, zx_1 rfl⟩
/-- L_spanLength -/
theorem z203 :
  (∀ (ls : zL) (st : zS) (h : zH), zx 203 0 ls st h = zgo 203 (zpure (.aload_n 2) 1 0 [] ls st h)) ∧
  (∀ (ls : zL) (st : zS) (h : zH), zx 203 1 ls st h = zgo 203 (zpure (.iconst 0) 2 0 [] ls st h)) ∧
  (∀ (ls : zL) (st : zS) (h : zH), zx 203 2 ls st h = zgo 203 (zpure (.aload_n 0) 3 0 [] ls st h)) ∧
  (∀ (ls : zL) (st : zS) (h : zH), zx 203 3 ls st h = zgo 203 (zpure (.iload_n 1) 4 0 [] ls st h)) ∧
  (∀ (ls : zL) (st : zS) (h : zH), zx 203 4 ls st h = zca 203 4 7 ls 59 2 6 (ztake 2 st) h) ∧
  (∀ (ls : zL) (st : zS) (h : zH), zx 203 7 ls st h = zgo 203 (zpure .i2l 8 0 [] ls st h)) ∧
  (∀ (ls : zL) (st : zS) (h : zH), zx 203 8 ls st h = zgo 203 (zpure .lastore 9 0 [] ls st h)) ∧
  (∀ (ls : zL) (st : zS) (h : zH), zx 203 9 ls st h = zgo 203 (zpure (.goto 6) 12 15 [] ls st h)) ∧
  (∀ (ls : zL) (st : zS) (h : zH), zx 203 12 ls st h = zgo 203 (zpure (.astore_n 3) 13 0 [] ls st h)) ∧
  (∀ (ls : zL) (st : zS) (h : zH), zx 203 13 ls st h = zgo 203 (zpure (.iconst 1) 14 0 [] ls st h)) ∧
  (∀ (ls : zL) (st : zS) (h : zH), zx 203 14 ls st h = zret 0 st h) ∧
  (∀ (ls : zL) (st : zS) (h : zH), zx 203 15 ls st h = zgo 203 (zpure (.iconst 0) 16 0 [] ls st h)) ∧
  (∀ (ls : zL) (st : zS) (h : zH), zx 203 16 ls st h = zret 0 st h) :=
  ⟨zx_0 rfl, zx_0 rfl, zx_0 rfl, zx_0 rfl, zx_2c rfl, zx_0 rfl, zx_0 rfl, zx_0 rfl, zx_0 rfl, zx_0 rfl, zx_1 rfl, zx_0 rfl, zx_1 rfl⟩
/-- L_airAt -/
theorem z204 :
  (∀ (ls : zL) (st : zS) (h : zH), zx 204 0 ls st h = zgo 204 (zpure (.aload_n 2) 1 0 [] ls st h)) ∧
  (∀ (ls : zL) (st : zS) (h : zH), zx 204 1 ls st h = zgo 204 (zpure (.iconst 0) 2 0 [] ls st h)) ∧
  (∀ (ls : zL) (st : zS) (h : zH), zx 204 2 ls st h = zgo 204 (zpure (.aload_n 0) 3 0 [] ls st h)) ∧
  (∀ (ls : zL) (st : zS) (h : zH), zx 204 3 ls st h = zgo 204 (zpure (.iload_n 1) 4 0 [] ls st h)) ∧
  (∀ (ls : zL) (st : zS) (h : zH), zx 204 4 ls st h = zca 204 4 7 ls 60 2 6 (ztake 2 st) h) ∧
  (∀ (ls : zL) (st : zS) (h : zH), zx 204 7 ls st h = zgo 204 (zpure .i2l 8 0 [] ls st h)) ∧
  (∀ (ls : zL) (st : zS) (h : zH), zx 204 8 ls st h = zgo 204 (zpure .lastore 9 0 [] ls st h)) ∧
  (∀ (ls : zL) (st : zS) (h : zH), zx 204 9 ls st h = zgo 204 (zpure (.goto 6) 12 15 [] ls st h)) ∧
  (∀ (ls : zL) (st : zS) (h : zH), zx 204 12 ls st h = zgo 204 (zpure (.astore_n 3) 13 0 [] ls st h)) ∧
  (∀ (ls : zL) (st : zS) (h : zH), zx 204 13 ls st h = zgo 204 (zpure (.iconst 1) 14 0 [] ls st h)) ∧
  (∀ (ls : zL) (st : zS) (h : zH), zx 204 14 ls st h = zret 0 st h) ∧
  (∀ (ls : zL) (st : zS) (h : zH), zx 204 15 ls st h = zgo 204 (zpure (.iconst 0) 16 0 [] ls st h)) ∧
  (∀ (ls : zL) (st : zS) (h : zH), zx 204 16 ls st h = zret 0 st h) :=
  ⟨zx_0 rfl, zx_0 rfl, zx_0 rfl, zx_0 rfl, zx_2c rfl, zx_0 rfl, zx_0 rfl, zx_0 rfl, zx_0 rfl, zx_0 rfl, zx_1 rfl, zx_0 rfl, zx_1 rfl⟩
/-- L_airBySeconds -/
theorem z205 :
  (∀ (ls : zL) (st : zS) (h : zH), zx 205 0 ls st h = zgo 205 (zpure (.aload_n 2) 1 0 [] ls st h)) ∧
  (∀ (ls : zL) (st : zS) (h : zH), zx 205 1 ls st h = zgo 205 (zpure (.iconst 0) 2 0 [] ls st h)) ∧
  (∀ (ls : zL) (st : zS) (h : zH), zx 205 2 ls st h = zgo 205 (zpure (.aload_n 0) 3 0 [] ls st h)) ∧
  (∀ (ls : zL) (st : zS) (h : zH), zx 205 3 ls st h = zgo 205 (zpure (.iload_n 1) 4 0 [] ls st h)) ∧
  (∀ (ls : zL) (st : zS) (h : zH), zx 205 4 ls st h = zca 205 4 7 ls 61 2 6 (ztake 2 st) h) ∧
  (∀ (ls : zL) (st : zS) (h : zH), zx 205 7 ls st h = zgo 205 (zpure .i2l 8 0 [] ls st h)) ∧
  (∀ (ls : zL) (st : zS) (h : zH), zx 205 8 ls st h = zgo 205 (zpure .lastore 9 0 [] ls st h)) ∧
  (∀ (ls : zL) (st : zS) (h : zH), zx 205 9 ls st h = zgo 205 (zpure (.goto 6) 12 15 [] ls st h)) ∧
  (∀ (ls : zL) (st : zS) (h : zH), zx 205 12 ls st h = zgo 205 (zpure (.astore_n 3) 13 0 [] ls st h)) ∧
  (∀ (ls : zL) (st : zS) (h : zH), zx 205 13 ls st h = zgo 205 (zpure (.iconst 1) 14 0 [] ls st h)) ∧
  (∀ (ls : zL) (st : zS) (h : zH), zx 205 14 ls st h = zret 0 st h) ∧
  (∀ (ls : zL) (st : zS) (h : zH), zx 205 15 ls st h = zgo 205 (zpure (.iconst 0) 16 0 [] ls st h)) ∧
  (∀ (ls : zL) (st : zS) (h : zH), zx 205 16 ls st h = zret 0 st h) :=
  ⟨zx_0 rfl, zx_0 rfl, zx_0 rfl, zx_0 rfl, zx_2c rfl, zx_0 rfl, zx_0 rfl, zx_0 rfl, zx_0 rfl, zx_0 rfl, zx_1 rfl, zx_0 rfl, zx_1 rfl⟩
/-- L_showing -/
theorem z206 :
  (∀ (ls : zL) (st : zS) (h : zH), zx 206 0 ls st h = zgo 206 (zpure (.aload_n 2) 1 0 [] ls st h)) ∧
  (∀ (ls : zL) (st : zS) (h : zH), zx 206 1 ls st h = zgo 206 (zpure (.iconst 0) 2 0 [] ls st h)) ∧
  (∀ (ls : zL) (st : zS) (h : zH), zx 206 2 ls st h = zgo 206 (zpure (.aload_n 0) 3 0 [] ls st h)) ∧
  (∀ (ls : zL) (st : zS) (h : zH), zx 206 3 ls st h = zgo 206 (zpure (.iload_n 1) 4 0 [] ls st h)) ∧
  (∀ (ls : zL) (st : zS) (h : zH), zx 206 4 ls st h = zca 206 4 7 ls 63 4 6 (ztake 2 st) h) ∧
  (∀ (ls : zL) (st : zS) (h : zH), zx 206 7 ls st h = zgo 206 (zpure .i2l 8 0 [] ls st h)) ∧
  (∀ (ls : zL) (st : zS) (h : zH), zx 206 8 ls st h = zgo 206 (zpure .lastore 9 0 [] ls st h)) ∧
  (∀ (ls : zL) (st : zS) (h : zH), zx 206 9 ls st h = zgo 206 (zpure (.goto 6) 12 15 [] ls st h)) ∧
  (∀ (ls : zL) (st : zS) (h : zH), zx 206 12 ls st h = zgo 206 (zpure (.astore_n 3) 13 0 [] ls st h)) ∧
  (∀ (ls : zL) (st : zS) (h : zH), zx 206 13 ls st h = zgo 206 (zpure (.iconst 1) 14 0 [] ls st h)) ∧
  (∀ (ls : zL) (st : zS) (h : zH), zx 206 14 ls st h = zret 0 st h) ∧
  (∀ (ls : zL) (st : zS) (h : zH), zx 206 15 ls st h = zgo 206 (zpure (.iconst 0) 16 0 [] ls st h)) ∧
  (∀ (ls : zL) (st : zS) (h : zH), zx 206 16 ls st h = zret 0 st h) :=
  ⟨zx_0 rfl, zx_0 rfl, zx_0 rfl, zx_0 rfl, zx_2c rfl, zx_0 rfl, zx_0 rfl, zx_0 rfl, zx_0 rfl, zx_0 rfl, zx_1 rfl, zx_0 rfl, zx_1 rfl⟩
/-- L_secondaryStart -/
theorem z207 :
  (∀ (ls : zL) (st : zS) (h : zH), zx 207 0 ls st h = zgo 207 (zpure (.aload_n 3) 1 0 [] ls st h)) ∧
  (∀ (ls : zL) (st : zS) (h : zH), zx 207 1 ls st h = zgo 207 (zpure (.iconst 0) 2 0 [] ls st h)) ∧
  (∀ (ls : zL) (st : zS) (h : zH), zx 207 2 ls st h = zgo 207 (zpure (.aload_n 0) 3 0 [] ls st h)) ∧
  (∀ (ls : zL) (st : zS) (h : zH), zx 207 3 ls st h = zgo 207 (zpure (.iload_n 1) 4 0 [] ls st h)) ∧
  (∀ (ls : zL) (st : zS) (h : zH), zx 207 4 ls st h = zgo 207 (zpure (.iload_n 2) 5 0 [] ls st h)) ∧
  (∀ (ls : zL) (st : zS) (h : zH), zx 207 5 ls st h = zca 207 5 8 ls 64 6 6 (ztake 3 st) h) ∧
  (∀ (ls : zL) (st : zS) (h : zH), zx 207 8 ls st h = zgo 207 (zpure .i2l 9 0 [] ls st h)) ∧
  (∀ (ls : zL) (st : zS) (h : zH), zx 207 9 ls st h = zgo 207 (zpure .lastore 10 0 [] ls st h)) ∧
  (∀ (ls : zL) (st : zS) (h : zH), zx 207 10 ls st h = zgo 207 (zpure (.goto 11) 13 21 [] ls st h)) ∧
  (∀ (ls : zL) (st : zS) (h : zH), zx 207 13 ls st h = zgo 207 (zpure (.astore 4) 15 0 [] ls st h)) ∧
  (∀ (ls : zL) (st : zS) (h : zH), zx 207 15 ls st h = zgo 207 (zpure (.iconst 1) 16 0 [] ls st h)) ∧
  (∀ (ls : zL) (st : zS) (h : zH), zx 207 16 ls st h = zret 0 st h) ∧
  (∀ (ls : zL) (st : zS) (h : zH), zx 207 17 ls st h = zgo 207 (zpure (.astore 4) 19 0 [] ls st h)) ∧
  (∀ (ls : zL) (st : zS) (h : zH), zx 207 19 ls st h = zgo 207 (zpure (.iconst 2) 20 0 [] ls st h)) ∧
  (∀ (ls : zL) (st : zS) (h : zH), zx 207 20 ls st h = zret 0 st h) ∧
  (∀ (ls : zL) (st : zS) (h : zH), zx 207 21 ls st h = zgo 207 (zpure (.iconst 0) 22 0 [] ls st h)) ∧
  (∀ (ls : zL) (st : zS) (h : zH), zx 207 22 ls st h = zret 0 st h) :=
  ⟨zx_0 rfl, zx_0 rfl, zx_0 rfl, zx_0 rfl, zx_0 rfl, zx_2c rfl, zx_0 rfl, zx_0 rfl, zx_0 rfl, zx_0 rfl, zx_0 rfl, zx_1 rfl, zx_0 rfl, zx_0 rfl, zx_1 rfl, zx_0 rfl, zx_1 rfl⟩
/-- L_meanLevel -/
theorem z208 :
  (∀ (ls : zL) (st : zS) (h : zH), zx 208 0 ls st h = zgo 208 (zpure (.aload_n 1) 1 0 [] ls st h)) ∧
  (∀ (ls : zL) (st : zS) (h : zH), zx 208 1 ls st h = zgo 208 (zpure (.iconst 0) 2 0 [] ls st h)) ∧
  (∀ (ls : zL) (st : zS) (h : zH), zx 208 2 ls st h = zgo 208 (zpure (.aload_n 0) 3 0 [] ls st h)) ∧
  (∀ (ls : zL) (st : zS) (h : zH), zx 208 3 ls st h = zca 208 3 6 ls 65 1 6 (ztake 1 st) h) ∧
  (∀ (ls : zL) (st : zS) (h : zH), zx 208 6 ls st h = zgo 208 (zpure .f2d 7 0 [] ls st h)) ∧
  (∀ (ls : zL) (st : zS) (h : zH), zx 208 7 ls st h = zgo 208 (zpure .dastore 8 0 [] ls st h)) ∧
  (∀ (ls : zL) (st : zS) (h : zH), zx 208 8 ls st h = zgo 208 (zpure (.goto 6) 11 14 [] ls st h)) ∧
  (∀ (ls : zL) (st : zS) (h : zH), zx 208 11 ls st h = zgo 208 (zpure (.astore_n 2) 12 0 [] ls st h)) ∧
  (∀ (ls : zL) (st : zS) (h : zH), zx 208 12 ls st h = zgo 208 (zpure (.iconst 1) 13 0 [] ls st h)) ∧
  (∀ (ls : zL) (st : zS) (h : zH), zx 208 13 ls st h = zret 0 st h) ∧
  (∀ (ls : zL) (st : zS) (h : zH), zx 208 14 ls st h = zgo 208 (zpure (.iconst 0) 15 0 [] ls st h)) ∧
  (∀ (ls : zL) (st : zS) (h : zH), zx 208 15 ls st h = zret 0 st h) :=
  ⟨zx_0 rfl, zx_0 rfl, zx_0 rfl, zx_2c rfl, zx_0 rfl, zx_0 rfl, zx_0 rfl, zx_0 rfl, zx_0 rfl, zx_1 rfl, zx_0 rfl, zx_1 rfl⟩
/-- L_meanLevelBits -/
theorem z209 :
  (∀ (ls : zL) (st : zS) (h : zH), zx 209 0 ls st h = zgo 209 (zpure (.aload_n 1) 1 0 [] ls st h)) ∧
  (∀ (ls : zL) (st : zS) (h : zH), zx 209 1 ls st h = zgo 209 (zpure (.iconst 0) 2 0 [] ls st h)) ∧
  (∀ (ls : zL) (st : zS) (h : zH), zx 209 2 ls st h = zgo 209 (zpure (.aload_n 0) 3 0 [] ls st h)) ∧
  (∀ (ls : zL) (st : zS) (h : zH), zx 209 3 ls st h = zca 209 3 6 ls 66 1 6 (ztake 1 st) h) ∧
  (∀ (ls : zL) (st : zS) (h : zH), zx 209 6 ls st h = zgo 209 (zpure .i2l 7 0 [] ls st h)) ∧
  (∀ (ls : zL) (st : zS) (h : zH), zx 209 7 ls st h = zgo 209 (zpure .lastore 8 0 [] ls st h)) ∧
  (∀ (ls : zL) (st : zS) (h : zH), zx 209 8 ls st h = zgo 209 (zpure (.goto 6) 11 14 [] ls st h)) ∧
  (∀ (ls : zL) (st : zS) (h : zH), zx 209 11 ls st h = zgo 209 (zpure (.astore_n 2) 12 0 [] ls st h)) ∧
  (∀ (ls : zL) (st : zS) (h : zH), zx 209 12 ls st h = zgo 209 (zpure (.iconst 1) 13 0 [] ls st h)) ∧
  (∀ (ls : zL) (st : zS) (h : zH), zx 209 13 ls st h = zret 0 st h) ∧
  (∀ (ls : zL) (st : zS) (h : zH), zx 209 14 ls st h = zgo 209 (zpure (.iconst 0) 15 0 [] ls st h)) ∧
  (∀ (ls : zL) (st : zS) (h : zH), zx 209 15 ls st h = zret 0 st h) :=
  ⟨zx_0 rfl, zx_0 rfl, zx_0 rfl, zx_2c rfl, zx_0 rfl, zx_0 rfl, zx_0 rfl, zx_0 rfl, zx_0 rfl, zx_1 rfl, zx_0 rfl, zx_1 rfl⟩
/-- L_fill -/
theorem z210 :
  (∀ (ls : zL) (st : zS) (h : zH), zx 210 0 ls st h = zgo 210 (zpure (.aload_n 3) 1 0 [] ls st h)) ∧
  (∀ (ls : zL) (st : zS) (h : zH), zx 210 1 ls st h = zgo 210 (zpure (.iconst 0) 2 0 [] ls st h)) ∧
  (∀ (ls : zL) (st : zS) (h : zH), zx 210 2 ls st h = zgo 210 (zpure (.aload_n 0) 3 0 [] ls st h)) ∧
  (∀ (ls : zL) (st : zS) (h : zH), zx 210 3 ls st h = zgo 210 (zpure (.iload_n 1) 4 0 [] ls st h)) ∧
  (∀ (ls : zL) (st : zS) (h : zH), zx 210 4 ls st h = zgo 210 (zpure (.iload_n 2) 5 0 [] ls st h)) ∧
  (∀ (ls : zL) (st : zS) (h : zH), zx 210 5 ls st h = zca 210 5 8 ls 67 3 6 (ztake 3 st) h) ∧
  (∀ (ls : zL) (st : zS) (h : zH), zx 210 8 ls st h = zgo 210 (zpure .i2l 9 0 [] ls st h)) ∧
  (∀ (ls : zL) (st : zS) (h : zH), zx 210 9 ls st h = zgo 210 (zpure .lastore 10 0 [] ls st h)) ∧
  (∀ (ls : zL) (st : zS) (h : zH), zx 210 10 ls st h = zgo 210 (zpure (.goto 11) 13 21 [] ls st h)) ∧
  (∀ (ls : zL) (st : zS) (h : zH), zx 210 13 ls st h = zgo 210 (zpure (.astore 4) 15 0 [] ls st h)) ∧
  (∀ (ls : zL) (st : zS) (h : zH), zx 210 15 ls st h = zgo 210 (zpure (.iconst 1) 16 0 [] ls st h)) ∧
  (∀ (ls : zL) (st : zS) (h : zH), zx 210 16 ls st h = zret 0 st h) ∧
  (∀ (ls : zL) (st : zS) (h : zH), zx 210 17 ls st h = zgo 210 (zpure (.astore 4) 19 0 [] ls st h)) ∧
  (∀ (ls : zL) (st : zS) (h : zH), zx 210 19 ls st h = zgo 210 (zpure (.iconst 2) 20 0 [] ls st h)) ∧
  (∀ (ls : zL) (st : zS) (h : zH), zx 210 20 ls st h = zret 0 st h) ∧
  (∀ (ls : zL) (st : zS) (h : zH), zx 210 21 ls st h = zgo 210 (zpure (.iconst 0) 22 0 [] ls st h)) ∧
  (∀ (ls : zL) (st : zS) (h : zH), zx 210 22 ls st h = zret 0 st h) :=
  ⟨zx_0 rfl, zx_0 rfl, zx_0 rfl, zx_0 rfl, zx_0 rfl, zx_2c rfl, zx_0 rfl, zx_0 rfl, zx_0 rfl, zx_0 rfl, zx_0 rfl, zx_1 rfl, zx_0 rfl, zx_0 rfl, zx_1 rfl, zx_0 rfl, zx_1 rfl⟩
/-- L_fillByTrying -/
theorem z211 :
  (∀ (ls : zL) (st : zS) (h : zH), zx 211 0 ls st h = zgo 211 (zpure (.aload_n 3) 1 0 [] ls st h)) ∧
  (∀ (ls : zL) (st : zS) (h : zH), zx 211 1 ls st h = zgo 211 (zpure (.iconst 0) 2 0 [] ls st h)) ∧
  (∀ (ls : zL) (st : zS) (h : zH), zx 211 2 ls st h = zgo 211 (zpure (.aload_n 0) 3 0 [] ls st h)) ∧
  (∀ (ls : zL) (st : zS) (h : zH), zx 211 3 ls st h = zgo 211 (zpure (.iload_n 1) 4 0 [] ls st h)) ∧
  (∀ (ls : zL) (st : zS) (h : zH), zx 211 4 ls st h = zgo 211 (zpure (.iload_n 2) 5 0 [] ls st h)) ∧
  (∀ (ls : zL) (st : zS) (h : zH), zx 211 5 ls st h = zca 211 5 8 ls 68 4 6 (ztake 3 st) h) ∧
  (∀ (ls : zL) (st : zS) (h : zH), zx 211 8 ls st h = zgo 211 (zpure .i2l 9 0 [] ls st h)) ∧
  (∀ (ls : zL) (st : zS) (h : zH), zx 211 9 ls st h = zgo 211 (zpure .lastore 10 0 [] ls st h)) ∧
  (∀ (ls : zL) (st : zS) (h : zH), zx 211 10 ls st h = zgo 211 (zpure (.goto 11) 13 21 [] ls st h)) ∧
  (∀ (ls : zL) (st : zS) (h : zH), zx 211 13 ls st h = zgo 211 (zpure (.astore 4) 15 0 [] ls st h)) ∧
  (∀ (ls : zL) (st : zS) (h : zH), zx 211 15 ls st h = zgo 211 (zpure (.iconst 1) 16 0 [] ls st h)) ∧
  (∀ (ls : zL) (st : zS) (h : zH), zx 211 16 ls st h = zret 0 st h) ∧
  (∀ (ls : zL) (st : zS) (h : zH), zx 211 17 ls st h = zgo 211 (zpure (.astore 4) 19 0 [] ls st h)) ∧
  (∀ (ls : zL) (st : zS) (h : zH), zx 211 19 ls st h = zgo 211 (zpure (.iconst 2) 20 0 [] ls st h)) ∧
  (∀ (ls : zL) (st : zS) (h : zH), zx 211 20 ls st h = zret 0 st h) ∧
  (∀ (ls : zL) (st : zS) (h : zH), zx 211 21 ls st h = zgo 211 (zpure (.iconst 0) 22 0 [] ls st h)) ∧
  (∀ (ls : zL) (st : zS) (h : zH), zx 211 22 ls st h = zret 0 st h) :=
  ⟨zx_0 rfl, zx_0 rfl, zx_0 rfl, zx_0 rfl, zx_0 rfl, zx_2c rfl, zx_0 rfl, zx_0 rfl, zx_0 rfl, zx_0 rfl, zx_0 rfl, zx_1 rfl, zx_0 rfl, zx_0 rfl, zx_1 rfl, zx_0 rfl, zx_1 rfl⟩
/-- L_fillAt -/
theorem z212 :
  (∀ (ls : zL) (st : zS) (h : zH), zx 212 0 ls st h = zgo 212 (zpure (.aload 4) 2 0 [] ls st h)) ∧
  (∀ (ls : zL) (st : zS) (h : zH), zx 212 2 ls st h = zgo 212 (zpure (.iconst 0) 3 0 [] ls st h)) ∧
  (∀ (ls : zL) (st : zS) (h : zH), zx 212 3 ls st h = zgo 212 (zpure (.aload_n 0) 4 0 [] ls st h)) ∧
  (∀ (ls : zL) (st : zS) (h : zH), zx 212 4 ls st h = zgo 212 (zpure (.iload_n 1) 5 0 [] ls st h)) ∧
  (∀ (ls : zL) (st : zS) (h : zH), zx 212 5 ls st h = zgo 212 (zpure (.iload_n 2) 6 0 [] ls st h)) ∧
  (∀ (ls : zL) (st : zS) (h : zH), zx 212 6 ls st h = zgo 212 (zpure (.iload_n 3) 7 0 [] ls st h)) ∧
  (∀ (ls : zL) (st : zS) (h : zH), zx 212 7 ls st h = zca 212 7 10 ls 69 7 6 (ztake 4 st) h) ∧
  (∀ (ls : zL) (st : zS) (h : zH), zx 212 10 ls st h = zgo 212 (zpure .i2l 11 0 [] ls st h)) ∧
  (∀ (ls : zL) (st : zS) (h : zH), zx 212 11 ls st h = zgo 212 (zpure .lastore 12 0 [] ls st h)) ∧
  (∀ (ls : zL) (st : zS) (h : zH), zx 212 12 ls st h = zgo 212 (zpure (.goto 11) 15 23 [] ls st h)) ∧
  (∀ (ls : zL) (st : zS) (h : zH), zx 212 15 ls st h = zgo 212 (zpure (.astore 5) 17 0 [] ls st h)) ∧
  (∀ (ls : zL) (st : zS) (h : zH), zx 212 17 ls st h = zgo 212 (zpure (.iconst 1) 18 0 [] ls st h)) ∧
  (∀ (ls : zL) (st : zS) (h : zH), zx 212 18 ls st h = zret 0 st h) ∧
  (∀ (ls : zL) (st : zS) (h : zH), zx 212 19 ls st h = zgo 212 (zpure (.astore 5) 21 0 [] ls st h)) ∧
  (∀ (ls : zL) (st : zS) (h : zH), zx 212 21 ls st h = zgo 212 (zpure (.iconst 2) 22 0 [] ls st h)) ∧
  (∀ (ls : zL) (st : zS) (h : zH), zx 212 22 ls st h = zret 0 st h) ∧
  (∀ (ls : zL) (st : zS) (h : zH), zx 212 23 ls st h = zgo 212 (zpure (.iconst 0) 24 0 [] ls st h)) ∧
  (∀ (ls : zL) (st : zS) (h : zH), zx 212 24 ls st h = zret 0 st h) :=
  ⟨zx_0 rfl, zx_0 rfl, zx_0 rfl, zx_0 rfl, zx_0 rfl, zx_0 rfl, zx_2c rfl, zx_0 rfl, zx_0 rfl, zx_0 rfl, zx_0 rfl, zx_0 rfl, zx_1 rfl, zx_0 rfl, zx_0 rfl, zx_1 rfl, zx_0 rfl, zx_1 rfl⟩
/-- L_deviation -/
theorem z213 :
  (∀ (ls : zL) (st : zS) (h : zH), zx 213 0 ls st h = zgo 213 (zpure (.aload_n 3) 1 0 [] ls st h)) ∧
  (∀ (ls : zL) (st : zS) (h : zH), zx 213 1 ls st h = zgo 213 (zpure (.iconst 0) 2 0 [] ls st h)) ∧
  (∀ (ls : zL) (st : zS) (h : zH), zx 213 2 ls st h = zgo 213 (zpure (.aload_n 0) 3 0 [] ls st h)) ∧
  (∀ (ls : zL) (st : zS) (h : zH), zx 213 3 ls st h = zgo 213 (zpure (.iload_n 1) 4 0 [] ls st h)) ∧
  (∀ (ls : zL) (st : zS) (h : zH), zx 213 4 ls st h = zgo 213 (zpure (.iload_n 2) 5 0 [] ls st h)) ∧
  (∀ (ls : zL) (st : zS) (h : zH), zx 213 5 ls st h = zca 213 5 8 ls 70 3 6 (ztake 3 st) h) ∧
  (∀ (ls : zL) (st : zS) (h : zH), zx 213 8 ls st h = zgo 213 (zpure .f2d 9 0 [] ls st h)) ∧
  (∀ (ls : zL) (st : zS) (h : zH), zx 213 9 ls st h = zgo 213 (zpure .dastore 10 0 [] ls st h)) ∧
  (∀ (ls : zL) (st : zS) (h : zH), zx 213 10 ls st h = zgo 213 (zpure (.goto 11) 13 21 [] ls st h)) ∧
  (∀ (ls : zL) (st : zS) (h : zH), zx 213 13 ls st h = zgo 213 (zpure (.astore 4) 15 0 [] ls st h)) ∧
  (∀ (ls : zL) (st : zS) (h : zH), zx 213 15 ls st h = zgo 213 (zpure (.iconst 1) 16 0 [] ls st h)) ∧
  (∀ (ls : zL) (st : zS) (h : zH), zx 213 16 ls st h = zret 0 st h) ∧
  (∀ (ls : zL) (st : zS) (h : zH), zx 213 17 ls st h = zgo 213 (zpure (.astore 4) 19 0 [] ls st h)) ∧
  (∀ (ls : zL) (st : zS) (h : zH), zx 213 19 ls st h = zgo 213 (zpure (.iconst 2) 20 0 [] ls st h)) ∧
  (∀ (ls : zL) (st : zS) (h : zH), zx 213 20 ls st h = zret 0 st h) ∧
  (∀ (ls : zL) (st : zS) (h : zH), zx 213 21 ls st h = zgo 213 (zpure (.iconst 0) 22 0 [] ls st h)) ∧
  (∀ (ls : zL) (st : zS) (h : zH), zx 213 22 ls st h = zret 0 st h) :=
  ⟨zx_0 rfl, zx_0 rfl, zx_0 rfl, zx_0 rfl, zx_0 rfl, zx_2c rfl, zx_0 rfl, zx_0 rfl, zx_0 rfl, zx_0 rfl, zx_0 rfl, zx_1 rfl, zx_0 rfl, zx_0 rfl, zx_1 rfl, zx_0 rfl, zx_1 rfl⟩
/-- L_air -/
theorem z214 :
  (∀ (ls : zL) (st : zS) (h : zH), zx 214 0 ls st h = zgo 214 (zpure (.aload_n 1) 1 0 [] ls st h)) ∧
  (∀ (ls : zL) (st : zS) (h : zH), zx 214 1 ls st h = zgo 214 (zpure (.iconst 0) 2 0 [] ls st h)) ∧
  (∀ (ls : zL) (st : zS) (h : zH), zx 214 2 ls st h = zgo 214 (zpure (.aload_n 0) 3 0 [] ls st h)) ∧
  (∀ (ls : zL) (st : zS) (h : zH), zx 214 3 ls st h = zca 214 3 6 ls 71 1 6 (ztake 1 st) h) ∧
  (∀ (ls : zL) (st : zS) (h : zH), zx 214 6 ls st h = zgo 214 (zpure .i2l 7 0 [] ls st h)) ∧
  (∀ (ls : zL) (st : zS) (h : zH), zx 214 7 ls st h = zgo 214 (zpure .lastore 8 0 [] ls st h)) ∧
  (∀ (ls : zL) (st : zS) (h : zH), zx 214 8 ls st h = zgo 214 (zpure (.goto 6) 11 14 [] ls st h)) ∧
  (∀ (ls : zL) (st : zS) (h : zH), zx 214 11 ls st h = zgo 214 (zpure (.astore_n 2) 12 0 [] ls st h)) ∧
  (∀ (ls : zL) (st : zS) (h : zH), zx 214 12 ls st h = zgo 214 (zpure (.iconst 1) 13 0 [] ls st h)) ∧
  (∀ (ls : zL) (st : zS) (h : zH), zx 214 13 ls st h = zret 0 st h) ∧
  (∀ (ls : zL) (st : zS) (h : zH), zx 214 14 ls st h = zgo 214 (zpure (.iconst 0) 15 0 [] ls st h)) ∧
  (∀ (ls : zL) (st : zS) (h : zH), zx 214 15 ls st h = zret 0 st h) :=
  ⟨zx_0 rfl, zx_0 rfl, zx_0 rfl, zx_2c rfl, zx_0 rfl, zx_0 rfl, zx_0 rfl, zx_0 rfl, zx_0 rfl, zx_1 rfl, zx_0 rfl, zx_1 rfl⟩
/-- L_entryClip -/
theorem z215 :
  (∀ (ls : zL) (st : zS) (h : zH), zx 215 0 ls st h = zgo 215 (zpure (.aload_n 2) 1 0 [] ls st h)) ∧
  (∀ (ls : zL) (st : zS) (h : zH), zx 215 1 ls st h = zgo 215 (zpure (.iconst 0) 2 0 [] ls st h)) ∧
  (∀ (ls : zL) (st : zS) (h : zH), zx 215 2 ls st h = zgo 215 (zpure (.aload_n 0) 3 0 [] ls st h)) ∧
  (∀ (ls : zL) (st : zS) (h : zH), zx 215 3 ls st h = zgo 215 (zpure (.iload_n 1) 4 0 [] ls st h)) ∧
  (∀ (ls : zL) (st : zS) (h : zH), zx 215 4 ls st h = zca 215 4 7 ls 74 2 6 (ztake 2 st) h) ∧
  (∀ (ls : zL) (st : zS) (h : zH), zx 215 7 ls st h = zgo 215 (zpure .i2l 8 0 [] ls st h)) ∧
  (∀ (ls : zL) (st : zS) (h : zH), zx 215 8 ls st h = zgo 215 (zpure .lastore 9 0 [] ls st h)) ∧
  (∀ (ls : zL) (st : zS) (h : zH), zx 215 9 ls st h = zgo 215 (zpure (.goto 6) 12 15 [] ls st h)) ∧
  (∀ (ls : zL) (st : zS) (h : zH), zx 215 12 ls st h = zgo 215 (zpure (.astore_n 3) 13 0 [] ls st h)) ∧
  (∀ (ls : zL) (st : zS) (h : zH), zx 215 13 ls st h = zgo 215 (zpure (.iconst 1) 14 0 [] ls st h)) ∧
  (∀ (ls : zL) (st : zS) (h : zH), zx 215 14 ls st h = zret 0 st h) ∧
  (∀ (ls : zL) (st : zS) (h : zH), zx 215 15 ls st h = zgo 215 (zpure (.iconst 0) 16 0 [] ls st h)) ∧
  (∀ (ls : zL) (st : zS) (h : zH), zx 215 16 ls st h = zret 0 st h) :=
  ⟨zx_0 rfl, zx_0 rfl, zx_0 rfl, zx_0 rfl, zx_2c rfl, zx_0 rfl, zx_0 rfl, zx_0 rfl, zx_0 rfl, zx_0 rfl, zx_1 rfl, zx_0 rfl, zx_1 rfl⟩
/-- L_entryStart -/
theorem z216 :
  (∀ (ls : zL) (st : zS) (h : zH), zx 216 0 ls st h = zgo 216 (zpure (.aload_n 2) 1 0 [] ls st h)) ∧
  (∀ (ls : zL) (st : zS) (h : zH), zx 216 1 ls st h = zgo 216 (zpure (.iconst 0) 2 0 [] ls st h)) ∧
  (∀ (ls : zL) (st : zS) (h : zH), zx 216 2 ls st h = zgo 216 (zpure (.aload_n 0) 3 0 [] ls st h)) ∧
  (∀ (ls : zL) (st : zS) (h : zH), zx 216 3 ls st h = zgo 216 (zpure (.iload_n 1) 4 0 [] ls st h)) ∧
  (∀ (ls : zL) (st : zS) (h : zH), zx 216 4 ls st h = zca 216 4 7 ls 75 2 6 (ztake 2 st) h) ∧
  (∀ (ls : zL) (st : zS) (h : zH), zx 216 7 ls st h = zgo 216 (zpure .i2l 8 0 [] ls st h)) ∧
  (∀ (ls : zL) (st : zS) (h : zH), zx 216 8 ls st h = zgo 216 (zpure .lastore 9 0 [] ls st h)) ∧
  (∀ (ls : zL) (st : zS) (h : zH), zx 216 9 ls st h = zgo 216 (zpure (.goto 6) 12 15 [] ls st h)) ∧
  (∀ (ls : zL) (st : zS) (h : zH), zx 216 12 ls st h = zgo 216 (zpure (.astore_n 3) 13 0 [] ls st h)) ∧
  (∀ (ls : zL) (st : zS) (h : zH), zx 216 13 ls st h = zgo 216 (zpure (.iconst 1) 14 0 [] ls st h)) ∧
  (∀ (ls : zL) (st : zS) (h : zH), zx 216 14 ls st h = zret 0 st h) ∧
  (∀ (ls : zL) (st : zS) (h : zH), zx 216 15 ls st h = zgo 216 (zpure (.iconst 0) 16 0 [] ls st h)) ∧
  (∀ (ls : zL) (st : zS) (h : zH), zx 216 16 ls st h = zret 0 st h) :=
  ⟨zx_0 rfl, zx_0 rfl, zx_0 rfl, zx_0 rfl, zx_2c rfl, zx_0 rfl, zx_0 rfl, zx_0 rfl, zx_0 rfl, zx_0 rfl, zx_1 rfl, zx_0 rfl, zx_1 rfl⟩
/-- L_apart -/
theorem z217 :
  (∀ (ls : zL) (st : zS) (h : zH), zx 217 0 ls st h = zgo 217 (zpure (.aload_n 1) 1 0 [] ls st h)) ∧
  (∀ (ls : zL) (st : zS) (h : zH), zx 217 1 ls st h = zgo 217 (zpure (.iconst 0) 2 0 [] ls st h)) ∧
  (∀ (ls : zL) (st : zS) (h : zH), zx 217 2 ls st h = zgo 217 (zpure (.aload_n 0) 3 0 [] ls st h)) ∧
  (∀ (ls : zL) (st : zS) (h : zH), zx 217 3 ls st h = zca 217 3 6 ls 76 1 6 (ztake 1 st) h) ∧
  (∀ (ls : zL) (st : zS) (h : zH), zx 217 6 ls st h = zgo 217 (zpure .i2l 7 0 [] ls st h)) ∧
  (∀ (ls : zL) (st : zS) (h : zH), zx 217 7 ls st h = zgo 217 (zpure .lastore 8 0 [] ls st h)) ∧
  (∀ (ls : zL) (st : zS) (h : zH), zx 217 8 ls st h = zgo 217 (zpure (.goto 6) 11 14 [] ls st h)) ∧
  (∀ (ls : zL) (st : zS) (h : zH), zx 217 11 ls st h = zgo 217 (zpure (.astore_n 2) 12 0 [] ls st h)) ∧
  (∀ (ls : zL) (st : zS) (h : zH), zx 217 12 ls st h = zgo 217 (zpure (.iconst 1) 13 0 [] ls st h)) ∧
  (∀ (ls : zL) (st : zS) (h : zH), zx 217 13 ls st h = zret 0 st h) ∧
  (∀ (ls : zL) (st : zS) (h : zH), zx 217 14 ls st h = zgo 217 (zpure (.iconst 0) 15 0 [] ls st h)) ∧
  (∀ (ls : zL) (st : zS) (h : zH), zx 217 15 ls st h = zret 0 st h) :=
  ⟨zx_0 rfl, zx_0 rfl, zx_0 rfl, zx_2c rfl, zx_0 rfl, zx_0 rfl, zx_0 rfl, zx_0 rfl, zx_0 rfl, zx_1 rfl, zx_0 rfl, zx_1 rfl⟩
/-- L_aired -/
theorem z218 :
  (∀ (ls : zL) (st : zS) (h : zH), zx 218 0 ls st h = zgo 218 (zpure (.aload_n 2) 1 0 [] ls st h)) ∧
  (∀ (ls : zL) (st : zS) (h : zH), zx 218 1 ls st h = zgo 218 (zpure (.iconst 0) 2 0 [] ls st h)) ∧
  (∀ (ls : zL) (st : zS) (h : zH), zx 218 2 ls st h = zgo 218 (zpure (.aload_n 0) 3 0 [] ls st h)) ∧
  (∀ (ls : zL) (st : zS) (h : zH), zx 218 3 ls st h = zgo 218 (zpure (.iload_n 1) 4 0 [] ls st h)) ∧
  (∀ (ls : zL) (st : zS) (h : zH), zx 218 4 ls st h = zca 218 4 7 ls 77 2 6 (ztake 2 st) h) ∧
  (∀ (ls : zL) (st : zS) (h : zH), zx 218 7 ls st h = zgo 218 (zpure .lastore 8 0 [] ls st h)) ∧
  (∀ (ls : zL) (st : zS) (h : zH), zx 218 8 ls st h = zgo 218 (zpure (.goto 6) 11 14 [] ls st h)) ∧
  (∀ (ls : zL) (st : zS) (h : zH), zx 218 11 ls st h = zgo 218 (zpure (.astore_n 3) 12 0 [] ls st h)) ∧
  (∀ (ls : zL) (st : zS) (h : zH), zx 218 12 ls st h = zgo 218 (zpure (.iconst 1) 13 0 [] ls st h)) ∧
  (∀ (ls : zL) (st : zS) (h : zH), zx 218 13 ls st h = zret 0 st h) ∧
  (∀ (ls : zL) (st : zS) (h : zH), zx 218 14 ls st h = zgo 218 (zpure (.iconst 0) 15 0 [] ls st h)) ∧
  (∀ (ls : zL) (st : zS) (h : zH), zx 218 15 ls st h = zret 0 st h) :=
  ⟨zx_0 rfl, zx_0 rfl, zx_0 rfl, zx_0 rfl, zx_2c rfl, zx_0 rfl, zx_0 rfl, zx_0 rfl, zx_0 rfl, zx_1 rfl, zx_0 rfl, zx_1 rfl⟩
theorem z219_28 : ∀ (ls : zL) (st : zS) (h : zH), zx 219 28 ls st h = zgo 219 (zpure (.iload 5) 30 0 [] ls st h) := zx_0 rfl
set_option maxRecDepth 4000 in
theorem z219_b0 :
  (∀ (ls : zL) (st : zS) (h : zH), zx 219 0 ls st h = zgo 219 (zpure (.new 8) 3 0 [5, 8] ls st h)) ∧
  (∀ (ls : zL) (st : zS) (h : zH), zx 219 3 ls st h = zgo 219 (zpure .dup 4 0 [] ls st h)) ∧
  (∀ (ls : zL) (st : zS) (h : zH), zx 219 4 ls st h = zca 219 4 7 ls 41 1 100 (ztake 1 st) h) ∧
  (∀ (ls : zL) (st : zS) (h : zH), zx 219 7 ls st h = zgo 219 (zpure (.astore_n 1) 8 0 [] ls st h)) ∧
  (∀ (ls : zL) (st : zS) (h : zH), zx 219 8 ls st h = zgo 219 (zpure (.new 125) 11 0 [6, 33] ls st h)) ∧
  (∀ (ls : zL) (st : zS) (h : zH), zx 219 11 ls st h = zgo 219 (zpure .dup 12 0 [] ls st h)) ∧
  (∀ (ls : zL) (st : zS) (h : zH), zx 219 12 ls st h = zca 219 12 15 ls 102 1 100 (ztake 1 st) h) ∧
  (∀ (ls : zL) (st : zS) (h : zH), zx 219 15 ls st h = zgo 219 (zpure (.astore_n 2) 16 0 [] ls st h)) ∧
  (∀ (ls : zL) (st : zS) (h : zH), zx 219 16 ls st h = zgo 219 (zpure (.iconst 1) 17 0 [] ls st h)) ∧
  (∀ (ls : zL) (st : zS) (h : zH), zx 219 17 ls st h = zgo 219 (zpure (.newarray .long) 19 0 [] ls st h)) ∧
  (∀ (ls : zL) (st : zS) (h : zH), zx 219 19 ls st h = zgo 219 (zpure (.astore_n 3) 20 0 [] ls st h)) ∧
  (∀ (ls : zL) (st : zS) (h : zH), zx 219 20 ls st h = zgo 219 (zpure (.iconst 1) 21 0 [] ls st h)) ∧
  (∀ (ls : zL) (st : zS) (h : zH), zx 219 21 ls st h = zgo 219 (zpure (.newarray .double) 23 0 [] ls st h)) ∧
  (∀ (ls : zL) (st : zS) (h : zH), zx 219 23 ls st h = zgo 219 (zpure (.astore 4) 25 0 [] ls st h)) ∧
  (∀ (ls : zL) (st : zS) (h : zH), zx 219 25 ls st h = zgo 219 (zpure (.iconst 0) 26 0 [] ls st h)) ∧
  (∀ (ls : zL) (st : zS) (h : zH), zx 219 26 ls st h = zgo 219 (zpure (.istore 5) 28 0 [] ls st h)) ∧
  (∀ (ls : zL) (st : zS) (h : zH), zx 219 30 ls st h = zgo 219 (zpure (.aload_n 0) 31 0 [] ls st h)) ∧
  (∀ (ls : zL) (st : zS) (h : zH), zx 219 31 ls st h = zgo 219 (zpure .arraylength 32 0 [] ls st h)) ∧
  (∀ (ls : zL) (st : zS) (h : zH), zx 219 32 ls st h = zgo 219 (zpure (.bipush 6) 34 0 [] ls st h)) ∧
  (∀ (ls : zL) (st : zS) (h : zH), zx 219 34 ls st h = zgo 219 (zpure .isub 35 0 [] ls st h)) ∧
  (∀ (ls : zL) (st : zS) (h : zH), zx 219 35 ls st h = zgo 219 (zpure (.if_icmp .gt 2239) 38 2274 [] ls st h)) ∧
  (∀ (ls : zL) (st : zS) (h : zH), zx 219 38 ls st h = zgo 219 (zpure (.aload_n 0) 39 0 [] ls st h)) ∧
  (∀ (ls : zL) (st : zS) (h : zH), zx 219 39 ls st h = zgo 219 (zpure (.iload 5) 41 0 [] ls st h)) ∧
  (∀ (ls : zL) (st : zS) (h : zH), zx 219 41 ls st h = zgo 219 (zpure .iaload 42 0 [] ls st h)) ∧
  (∀ (ls : zL) (st : zS) (h : zH), zx 219 42 ls st h = zgo 219 (zpure (.bipush 63) 44 0 [] ls st h)) ∧
  (∀ (ls : zL) (st : zS) (h : zH), zx 219 44 ls st h = zgo 219 (zpure .iand 45 0 [] ls st h)) ∧
  (∀ (ls : zL) (st : zS) (h : zH), zx 219 45 ls st h = zgo 219 (zpure (.tableswitch 2223 0 35 #[159, 263, 355, 411, 479, 573, 629, 697, 765, 859, 872, 928, 984, 1040, 1096, 1109, 1165, 1221, 1277, 1333, 1389, 1402, 1458, 1526, 1592, 1636, 1704, 1772, 1852, 1942, 1986, 1999, 2012, 2068, 2124, 2168]) 204 2268 [204, 308, 400, 456, 524, 618, 674, 742, 810, 904, 917, 973, 1029, 1085, 1141, 1154, 1210, 1266, 1322, 1378, 1434, 1447, 1503, 1571, 1637, 1681, 1749, 1817, 1897, 1987, 2031, 2044, 2057, 2113, 2169, 2213] ls st h)) ∧
  (∀ (ls : zL) (st : zS) (h : zH), zx 219 204 ls st h = zgo 219 (zpure (.aload_n 1) 205 0 [] ls st h)) ∧
  (∀ (ls : zL) (st : zS) (h : zH), zx 219 205 ls st h = zgo 219 (zpure (.aload_n 0) 206 0 [] ls st h)) ∧
  (∀ (ls : zL) (st : zS) (h : zH), zx 219 206 ls st h = zgo 219 (zpure (.iload 5) 208 0 [] ls st h)) ∧
  (∀ (ls : zL) (st : zS) (h : zH), zx 219 208 ls st h = zgo 219 (zpure (.iconst 1) 209 0 [] ls st h)) ∧
  (∀ (ls : zL) (st : zS) (h : zH), zx 219 209 ls st h = zgo 219 (zpure .iadd 210 0 [] ls st h)) ∧
  (∀ (ls : zL) (st : zS) (h : zH), zx 219 210 ls st h = zgo 219 (zpure .iaload 211 0 [] ls st h)) ∧
  (∀ (ls : zL) (st : zS) (h : zH), zx 219 211 ls st h = zgo 219 (zpure (.aload_n 0) 212 0 [] ls st h)) ∧
  (∀ (ls : zL) (st : zS) (h : zH), zx 219 212 ls st h = zgo 219 (zpure (.iload 5) 214 0 [] ls st h)) ∧
  (∀ (ls : zL) (st : zS) (h : zH), zx 219 214 ls st h = zgo 219 (zpure (.iconst 2) 215 0 [] ls st h)) ∧
  (∀ (ls : zL) (st : zS) (h : zH), zx 219 215 ls st h = zgo 219 (zpure .iadd 216 0 [] ls st h)) ∧
  (∀ (ls : zL) (st : zS) (h : zH), zx 219 216 ls st h = zgo 219 (zpure .iaload 217 0 [] ls st h)) ∧
  (∀ (ls : zL) (st : zS) (h : zH), zx 219 217 ls st h = zgo 219 (zpure (.aload_n 0) 218 0 [] ls st h)) ∧
  (∀ (ls : zL) (st : zS) (h : zH), zx 219 218 ls st h = zgo 219 (zpure (.iload 5) 220 0 [] ls st h)) ∧
  (∀ (ls : zL) (st : zS) (h : zH), zx 219 220 ls st h = zgo 219 (zpure (.iconst 3) 221 0 [] ls st h)) ∧
  (∀ (ls : zL) (st : zS) (h : zH), zx 219 221 ls st h = zgo 219 (zpure .iadd 222 0 [] ls st h)) ∧
  (∀ (ls : zL) (st : zS) (h : zH), zx 219 222 ls st h = zgo 219 (zpure .iaload 223 0 [] ls st h)) ∧
  (∀ (ls : zL) (st : zS) (h : zH), zx 219 223 ls st h = zgo 219 (zpure (.aload_n 0) 224 0 [] ls st h)) ∧
  (∀ (ls : zL) (st : zS) (h : zH), zx 219 224 ls st h = zgo 219 (zpure (.iload 5) 226 0 [] ls st h)) ∧
  (∀ (ls : zL) (st : zS) (h : zH), zx 219 226 ls st h = zgo 219 (zpure (.iconst 4) 227 0 [] ls st h)) ∧
  (∀ (ls : zL) (st : zS) (h : zH), zx 219 227 ls st h = zgo 219 (zpure .iadd 228 0 [] ls st h)) ∧
  (∀ (ls : zL) (st : zS) (h : zH), zx 219 228 ls st h = zgo 219 (zpure .iaload 229 0 [] ls st h)) ∧
  (∀ (ls : zL) (st : zS) (h : zH), zx 219 229 ls st h = zgo 219 (zpure (.aload_n 0) 230 0 [] ls st h)) ∧
  (∀ (ls : zL) (st : zS) (h : zH), zx 219 230 ls st h = zgo 219 (zpure (.iload 5) 232 0 [] ls st h)) ∧
  (∀ (ls : zL) (st : zS) (h : zH), zx 219 232 ls st h = zgo 219 (zpure (.iconst 5) 233 0 [] ls st h)) ∧
  (∀ (ls : zL) (st : zS) (h : zH), zx 219 233 ls st h = zgo 219 (zpure .iadd 234 0 [] ls st h)) ∧
  (∀ (ls : zL) (st : zS) (h : zH), zx 219 234 ls st h = zgo 219 (zpure .iaload 235 0 [] ls st h)) ∧
  (∀ (ls : zL) (st : zS) (h : zH), zx 219 235 ls st h = zgo 219 (zpure (.aload_n 3) 236 0 [] ls st h)) ∧
  (∀ (ls : zL) (st : zS) (h : zH), zx 219 236 ls st h = zca 219 236 239 ls 188 8 0 (ztake 7 st) h) ∧
  (∀ (ls : zL) (st : zS) (h : zH), zx 219 239 ls st h = zgo 219 (zpure (.istore 6) 241 0 [] ls st h)) ∧
  (∀ (ls : zL) (st : zS) (h : zH), zx 219 241 ls st h = zgo 219 (zpure (.aload_n 2) 242 0 [] ls st h)) ∧
  (∀ (ls : zL) (st : zS) (h : zH), zx 219 242 ls st h = zgo 219 (zpure (.aload_n 0) 243 0 [] ls st h)) ∧
  (∀ (ls : zL) (st : zS) (h : zH), zx 219 243 ls st h = zgo 219 (zpure (.iload 5) 245 0 [] ls st h)) ∧
  (∀ (ls : zL) (st : zS) (h : zH), zx 219 245 ls st h = zgo 219 (zpure (.iconst 1) 246 0 [] ls st h)) :=
  ⟨zx_0 rfl, zx_0 rfl, zx_2c rfl, zx_0 rfl, zx_0 rfl, zx_0 rfl, zx_2c rfl, zx_0 rfl, zx_0 rfl, zx_0 rfl, zx_0 rfl, zx_0 rfl, zx_0 rfl, zx_0 rfl, zx_0 rfl, zx_0 rfl, zx_0 rfl, zx_0 rfl, zx_0 rfl, zx_0 rfl, zx_0 rfl, zx_0 rfl, zx_0 rfl, zx_0 rfl, zx_0 rfl, zx_0 rfl, zx_0 rfl, zx_0 rfl, zx_0 rfl, zx_0 rfl, zx_0 rfl, zx_0 rfl, zx_0 rfl, zx_0 rfl, zx_0 rfl, zx_0 rfl, zx_0 rfl, zx_0 rfl, zx_0 rfl, zx_0 rfl, zx_0 rfl, zx_0 rfl, zx_0 rfl, zx_0 rfl, zx_0 rfl, zx_0 rfl, zx_0 rfl, zx_0 rfl, zx_0 rfl, zx_0 rfl, zx_0 rfl, zx_0 rfl, zx_0 rfl, zx_0 rfl, zx_2c rfl, zx_0 rfl, zx_0 rfl, zx_0 rfl, zx_0 rfl, zx_0 rfl⟩
set_option maxRecDepth 4000 in
theorem z219_b1 :
  (∀ (ls : zL) (st : zS) (h : zH), zx 219 246 ls st h = zgo 219 (zpure .iadd 247 0 [] ls st h)) ∧
  (∀ (ls : zL) (st : zS) (h : zH), zx 219 247 ls st h = zgo 219 (zpure .iaload 248 0 [] ls st h)) ∧
  (∀ (ls : zL) (st : zS) (h : zH), zx 219 248 ls st h = zgo 219 (zpure (.aload_n 0) 249 0 [] ls st h)) ∧
  (∀ (ls : zL) (st : zS) (h : zH), zx 219 249 ls st h = zgo 219 (zpure (.iload 5) 251 0 [] ls st h)) ∧
  (∀ (ls : zL) (st : zS) (h : zH), zx 219 251 ls st h = zgo 219 (zpure (.iconst 2) 252 0 [] ls st h)) ∧
  (∀ (ls : zL) (st : zS) (h : zH), zx 219 252 ls st h = zgo 219 (zpure .iadd 253 0 [] ls st h)) ∧
  (∀ (ls : zL) (st : zS) (h : zH), zx 219 253 ls st h = zgo 219 (zpure .iaload 254 0 [] ls st h)) ∧
  (∀ (ls : zL) (st : zS) (h : zH), zx 219 254 ls st h = zgo 219 (zpure (.aload_n 0) 255 0 [] ls st h)) ∧
  (∀ (ls : zL) (st : zS) (h : zH), zx 219 255 ls st h = zgo 219 (zpure (.iload 5) 257 0 [] ls st h)) ∧
  (∀ (ls : zL) (st : zS) (h : zH), zx 219 257 ls st h = zgo 219 (zpure (.iconst 3) 258 0 [] ls st h)) ∧
  (∀ (ls : zL) (st : zS) (h : zH), zx 219 258 ls st h = zgo 219 (zpure .iadd 259 0 [] ls st h)) ∧
  (∀ (ls : zL) (st : zS) (h : zH), zx 219 259 ls st h = zgo 219 (zpure .iaload 260 0 [] ls st h)) ∧
  (∀ (ls : zL) (st : zS) (h : zH), zx 219 260 ls st h = zgo 219 (zpure (.aload_n 0) 261 0 [] ls st h)) ∧
  (∀ (ls : zL) (st : zS) (h : zH), zx 219 261 ls st h = zgo 219 (zpure (.iload 5) 263 0 [] ls st h)) ∧
  (∀ (ls : zL) (st : zS) (h : zH), zx 219 263 ls st h = zgo 219 (zpure (.iconst 4) 264 0 [] ls st h)) ∧
  (∀ (ls : zL) (st : zS) (h : zH), zx 219 264 ls st h = zgo 219 (zpure .iadd 265 0 [] ls st h)) ∧
  (∀ (ls : zL) (st : zS) (h : zH), zx 219 265 ls st h = zgo 219 (zpure .iaload 266 0 [] ls st h)) ∧
  (∀ (ls : zL) (st : zS) (h : zH), zx 219 266 ls st h = zgo 219 (zpure (.aload_n 0) 267 0 [] ls st h)) ∧
  (∀ (ls : zL) (st : zS) (h : zH), zx 219 267 ls st h = zgo 219 (zpure (.iload 5) 269 0 [] ls st h)) ∧
  (∀ (ls : zL) (st : zS) (h : zH), zx 219 269 ls st h = zgo 219 (zpure (.iconst 5) 270 0 [] ls st h)) ∧
  (∀ (ls : zL) (st : zS) (h : zH), zx 219 270 ls st h = zgo 219 (zpure .iadd 271 0 [] ls st h)) ∧
  (∀ (ls : zL) (st : zS) (h : zH), zx 219 271 ls st h = zgo 219 (zpure .iaload 272 0 [] ls st h)) ∧
  (∀ (ls : zL) (st : zS) (h : zH), zx 219 272 ls st h = zca 219 272 275 ls 108 6 7 (ztake 6 st) h) ∧
  (∀ (ls : zL) (st : zS) (h : zH), zx 219 275 ls st h = zgo 219 (zpure (.istore 7) 277 0 [] ls st h)) ∧
  (∀ (ls : zL) (st : zS) (h : zH), zx 219 277 ls st h = zgo 219 (zpure (.aload_n 2) 278 0 [] ls st h)) ∧
  (∀ (ls : zL) (st : zS) (h : zH), zx 219 278 ls st h = zca 219 278 281 ls 103 1 7 (ztake 1 st) h) ∧
  (∀ (ls : zL) (st : zS) (h : zH), zx 219 281 ls st h = zgo 219 (zpure (.iload 6) 283 0 [] ls st h)) ∧
  (∀ (ls : zL) (st : zS) (h : zH), zx 219 283 ls st h = zgo 219 (zpure (.if_icmp .eq 5) 286 288 [] ls st h)) ∧
  (∀ (ls : zL) (st : zS) (h : zH), zx 219 286 ls st h = zgo 219 (zpure (.iconst 0) 287 0 [] ls st h)) ∧
  (∀ (ls : zL) (st : zS) (h : zH), zx 219 287 ls st h = zret 1 st h) ∧
  (∀ (ls : zL) (st : zS) (h : zH), zx 219 288 ls st h = zgo 219 (zpure (.iload 6) 290 0 [] ls st h)) ∧
  (∀ (ls : zL) (st : zS) (h : zH), zx 219 290 ls st h = zgo 219 (zpure (.ifCond .ne 15) 293 305 [] ls st h)) ∧
  (∀ (ls : zL) (st : zS) (h : zH), zx 219 293 ls st h = zgo 219 (zpure (.aload_n 3) 294 0 [] ls st h)) ∧
  (∀ (ls : zL) (st : zS) (h : zH), zx 219 294 ls st h = zgo 219 (zpure (.iconst 0) 295 0 [] ls st h)) ∧
  (∀ (ls : zL) (st : zS) (h : zH), zx 219 295 ls st h = zgo 219 (zpure .laload 296 0 [] ls st h)) ∧
  (∀ (ls : zL) (st : zS) (h : zH), zx 219 296 ls st h = zgo 219 (zpure (.iload 7) 298 0 [] ls st h)) ∧
  (∀ (ls : zL) (st : zS) (h : zH), zx 219 298 ls st h = zgo 219 (zpure .i2l 299 0 [] ls st h)) ∧
  (∀ (ls : zL) (st : zS) (h : zH), zx 219 299 ls st h = zgo 219 (zpure .lcmp 300 0 [] ls st h)) ∧
  (∀ (ls : zL) (st : zS) (h : zH), zx 219 300 ls st h = zgo 219 (zpure (.ifCond .eq 5) 303 305 [] ls st h)) ∧
  (∀ (ls : zL) (st : zS) (h : zH), zx 219 303 ls st h = zgo 219 (zpure (.iconst 0) 304 0 [] ls st h)) ∧
  (∀ (ls : zL) (st : zS) (h : zH), zx 219 304 ls st h = zret 1 st h) ∧
  (∀ (ls : zL) (st : zS) (h : zH), zx 219 305 ls st h = zgo 219 (zpure (.goto 1963) 308 2268 [] ls st h)) ∧
  (∀ (ls : zL) (st : zS) (h : zH), zx 219 308 ls st h = zgo 219 (zpure (.aload_n 1) 309 0 [] ls st h)) ∧
  (∀ (ls : zL) (st : zS) (h : zH), zx 219 309 ls st h = zgo 219 (zpure (.aload_n 0) 310 0 [] ls st h)) ∧
  (∀ (ls : zL) (st : zS) (h : zH), zx 219 310 ls st h = zgo 219 (zpure (.iload 5) 312 0 [] ls st h)) ∧
  (∀ (ls : zL) (st : zS) (h : zH), zx 219 312 ls st h = zgo 219 (zpure (.iconst 1) 313 0 [] ls st h)) ∧
  (∀ (ls : zL) (st : zS) (h : zH), zx 219 313 ls st h = zgo 219 (zpure .iadd 314 0 [] ls st h)) ∧
  (∀ (ls : zL) (st : zS) (h : zH), zx 219 314 ls st h = zgo 219 (zpure .iaload 315 0 [] ls st h)) ∧
  (∀ (ls : zL) (st : zS) (h : zH), zx 219 315 ls st h = zgo 219 (zpure (.aload_n 0) 316 0 [] ls st h)) ∧
  (∀ (ls : zL) (st : zS) (h : zH), zx 219 316 ls st h = zgo 219 (zpure (.iload 5) 318 0 [] ls st h)) ∧
  (∀ (ls : zL) (st : zS) (h : zH), zx 219 318 ls st h = zgo 219 (zpure (.iconst 2) 319 0 [] ls st h)) ∧
  (∀ (ls : zL) (st : zS) (h : zH), zx 219 319 ls st h = zgo 219 (zpure .iadd 320 0 [] ls st h)) ∧
  (∀ (ls : zL) (st : zS) (h : zH), zx 219 320 ls st h = zgo 219 (zpure .iaload 321 0 [] ls st h)) ∧
  (∀ (ls : zL) (st : zS) (h : zH), zx 219 321 ls st h = zgo 219 (zpure (.aload_n 0) 322 0 [] ls st h)) ∧
  (∀ (ls : zL) (st : zS) (h : zH), zx 219 322 ls st h = zgo 219 (zpure (.iload 5) 324 0 [] ls st h)) ∧
  (∀ (ls : zL) (st : zS) (h : zH), zx 219 324 ls st h = zgo 219 (zpure (.iconst 3) 325 0 [] ls st h)) ∧
  (∀ (ls : zL) (st : zS) (h : zH), zx 219 325 ls st h = zgo 219 (zpure .iadd 326 0 [] ls st h)) ∧
  (∀ (ls : zL) (st : zS) (h : zH), zx 219 326 ls st h = zgo 219 (zpure .iaload 327 0 [] ls st h)) ∧
  (∀ (ls : zL) (st : zS) (h : zH), zx 219 327 ls st h = zgo 219 (zpure (.aload_n 0) 328 0 [] ls st h)) ∧
  (∀ (ls : zL) (st : zS) (h : zH), zx 219 328 ls st h = zgo 219 (zpure (.iload 5) 330 0 [] ls st h)) :=
  ⟨zx_0 rfl, zx_0 rfl, zx_0 rfl, zx_0 rfl, zx_0 rfl, zx_0 rfl, zx_0 rfl, zx_0 rfl, zx_0 rfl, zx_0 rfl, zx_0 rfl, zx_0 rfl, zx_0 rfl, zx_0 rfl, zx_0 rfl, zx_0 rfl, zx_0 rfl, zx_0 rfl, zx_0 rfl, zx_0 rfl, zx_0 rfl, zx_0 rfl, zx_2c rfl, zx_0 rfl, zx_0 rfl, zx_2c rfl, zx_0 rfl, zx_0 rfl, zx_0 rfl, zx_1 rfl, zx_0 rfl, zx_0 rfl, zx_0 rfl, zx_0 rfl, zx_0 rfl, zx_0 rfl, zx_0 rfl, zx_0 rfl, zx_0 rfl, zx_0 rfl, zx_1 rfl, zx_0 rfl, zx_0 rfl, zx_0 rfl, zx_0 rfl, zx_0 rfl, zx_0 rfl, zx_0 rfl, zx_0 rfl, zx_0 rfl, zx_0 rfl, zx_0 rfl, zx_0 rfl, zx_0 rfl, zx_0 rfl, zx_0 rfl, zx_0 rfl, zx_0 rfl, zx_0 rfl, zx_0 rfl⟩
set_option maxRecDepth 4000 in
theorem z219_b2 :
  (∀ (ls : zL) (st : zS) (h : zH), zx 219 330 ls st h = zgo 219 (zpure (.iconst 4) 331 0 [] ls st h)) ∧
  (∀ (ls : zL) (st : zS) (h : zH), zx 219 331 ls st h = zgo 219 (zpure .iadd 332 0 [] ls st h)) ∧
  (∀ (ls : zL) (st : zS) (h : zH), zx 219 332 ls st h = zgo 219 (zpure .iaload 333 0 [] ls st h)) ∧
  (∀ (ls : zL) (st : zS) (h : zH), zx 219 333 ls st h = zgo 219 (zpure (.aload_n 3) 334 0 [] ls st h)) ∧
  (∀ (ls : zL) (st : zS) (h : zH), zx 219 334 ls st h = zca 219 334 337 ls 189 7 0 (ztake 6 st) h) ∧
  (∀ (ls : zL) (st : zS) (h : zH), zx 219 337 ls st h = zgo 219 (zpure (.istore 6) 339 0 [] ls st h)) ∧
  (∀ (ls : zL) (st : zS) (h : zH), zx 219 339 ls st h = zgo 219 (zpure (.aload_n 2) 340 0 [] ls st h)) ∧
  (∀ (ls : zL) (st : zS) (h : zH), zx 219 340 ls st h = zgo 219 (zpure (.aload_n 0) 341 0 [] ls st h)) ∧
  (∀ (ls : zL) (st : zS) (h : zH), zx 219 341 ls st h = zgo 219 (zpure (.iload 5) 343 0 [] ls st h)) ∧
  (∀ (ls : zL) (st : zS) (h : zH), zx 219 343 ls st h = zgo 219 (zpure (.iconst 1) 344 0 [] ls st h)) ∧
  (∀ (ls : zL) (st : zS) (h : zH), zx 219 344 ls st h = zgo 219 (zpure .iadd 345 0 [] ls st h)) ∧
  (∀ (ls : zL) (st : zS) (h : zH), zx 219 345 ls st h = zgo 219 (zpure .iaload 346 0 [] ls st h)) ∧
  (∀ (ls : zL) (st : zS) (h : zH), zx 219 346 ls st h = zgo 219 (zpure (.aload_n 0) 347 0 [] ls st h)) ∧
  (∀ (ls : zL) (st : zS) (h : zH), zx 219 347 ls st h = zgo 219 (zpure (.iload 5) 349 0 [] ls st h)) ∧
  (∀ (ls : zL) (st : zS) (h : zH), zx 219 349 ls st h = zgo 219 (zpure (.iconst 2) 350 0 [] ls st h)) ∧
  (∀ (ls : zL) (st : zS) (h : zH), zx 219 350 ls st h = zgo 219 (zpure .iadd 351 0 [] ls st h)) ∧
  (∀ (ls : zL) (st : zS) (h : zH), zx 219 351 ls st h = zgo 219 (zpure .iaload 352 0 [] ls st h)) ∧
  (∀ (ls : zL) (st : zS) (h : zH), zx 219 352 ls st h = zgo 219 (zpure (.aload_n 0) 353 0 [] ls st h)) ∧
  (∀ (ls : zL) (st : zS) (h : zH), zx 219 353 ls st h = zgo 219 (zpure (.iload 5) 355 0 [] ls st h)) ∧
  (∀ (ls : zL) (st : zS) (h : zH), zx 219 355 ls st h = zgo 219 (zpure (.iconst 3) 356 0 [] ls st h)) ∧
  (∀ (ls : zL) (st : zS) (h : zH), zx 219 356 ls st h = zgo 219 (zpure .iadd 357 0 [] ls st h)) ∧
  (∀ (ls : zL) (st : zS) (h : zH), zx 219 357 ls st h = zgo 219 (zpure .iaload 358 0 [] ls st h)) ∧
  (∀ (ls : zL) (st : zS) (h : zH), zx 219 358 ls st h = zgo 219 (zpure (.aload_n 0) 359 0 [] ls st h)) ∧
  (∀ (ls : zL) (st : zS) (h : zH), zx 219 359 ls st h = zgo 219 (zpure (.iload 5) 361 0 [] ls st h)) ∧
  (∀ (ls : zL) (st : zS) (h : zH), zx 219 361 ls st h = zgo 219 (zpure (.iconst 4) 362 0 [] ls st h)) ∧
  (∀ (ls : zL) (st : zS) (h : zH), zx 219 362 ls st h = zgo 219 (zpure .iadd 363 0 [] ls st h)) ∧
  (∀ (ls : zL) (st : zS) (h : zH), zx 219 363 ls st h = zgo 219 (zpure .iaload 364 0 [] ls st h)) ∧
  (∀ (ls : zL) (st : zS) (h : zH), zx 219 364 ls st h = zca 219 364 367 ls 109 5 7 (ztake 5 st) h) ∧
  (∀ (ls : zL) (st : zS) (h : zH), zx 219 367 ls st h = zgo 219 (zpure (.istore 7) 369 0 [] ls st h)) ∧
  (∀ (ls : zL) (st : zS) (h : zH), zx 219 369 ls st h = zgo 219 (zpure (.aload_n 2) 370 0 [] ls st h)) ∧
  (∀ (ls : zL) (st : zS) (h : zH), zx 219 370 ls st h = zca 219 370 373 ls 103 1 7 (ztake 1 st) h) ∧
  (∀ (ls : zL) (st : zS) (h : zH), zx 219 373 ls st h = zgo 219 (zpure (.iload 6) 375 0 [] ls st h)) ∧
  (∀ (ls : zL) (st : zS) (h : zH), zx 219 375 ls st h = zgo 219 (zpure (.if_icmp .eq 5) 378 380 [] ls st h)) ∧
  (∀ (ls : zL) (st : zS) (h : zH), zx 219 378 ls st h = zgo 219 (zpure (.iconst 0) 379 0 [] ls st h)) ∧
  (∀ (ls : zL) (st : zS) (h : zH), zx 219 379 ls st h = zret 1 st h) ∧
  (∀ (ls : zL) (st : zS) (h : zH), zx 219 380 ls st h = zgo 219 (zpure (.iload 6) 382 0 [] ls st h)) ∧
  (∀ (ls : zL) (st : zS) (h : zH), zx 219 382 ls st h = zgo 219 (zpure (.ifCond .ne 15) 385 397 [] ls st h)) ∧
  (∀ (ls : zL) (st : zS) (h : zH), zx 219 385 ls st h = zgo 219 (zpure (.aload_n 3) 386 0 [] ls st h)) ∧
  (∀ (ls : zL) (st : zS) (h : zH), zx 219 386 ls st h = zgo 219 (zpure (.iconst 0) 387 0 [] ls st h)) ∧
  (∀ (ls : zL) (st : zS) (h : zH), zx 219 387 ls st h = zgo 219 (zpure .laload 388 0 [] ls st h)) ∧
  (∀ (ls : zL) (st : zS) (h : zH), zx 219 388 ls st h = zgo 219 (zpure (.iload 7) 390 0 [] ls st h)) ∧
  (∀ (ls : zL) (st : zS) (h : zH), zx 219 390 ls st h = zgo 219 (zpure .i2l 391 0 [] ls st h)) ∧
  (∀ (ls : zL) (st : zS) (h : zH), zx 219 391 ls st h = zgo 219 (zpure .lcmp 392 0 [] ls st h)) ∧
  (∀ (ls : zL) (st : zS) (h : zH), zx 219 392 ls st h = zgo 219 (zpure (.ifCond .eq 5) 395 397 [] ls st h)) ∧
  (∀ (ls : zL) (st : zS) (h : zH), zx 219 395 ls st h = zgo 219 (zpure (.iconst 0) 396 0 [] ls st h)) ∧
  (∀ (ls : zL) (st : zS) (h : zH), zx 219 396 ls st h = zret 1 st h) ∧
  (∀ (ls : zL) (st : zS) (h : zH), zx 219 397 ls st h = zgo 219 (zpure (.goto 1871) 400 2268 [] ls st h)) ∧
  (∀ (ls : zL) (st : zS) (h : zH), zx 219 400 ls st h = zgo 219 (zpure (.aload_n 1) 401 0 [] ls st h)) ∧
  (∀ (ls : zL) (st : zS) (h : zH), zx 219 401 ls st h = zgo 219 (zpure (.aload_n 0) 402 0 [] ls st h)) ∧
  (∀ (ls : zL) (st : zS) (h : zH), zx 219 402 ls st h = zgo 219 (zpure (.iload 5) 404 0 [] ls st h)) ∧
  (∀ (ls : zL) (st : zS) (h : zH), zx 219 404 ls st h = zgo 219 (zpure (.iconst 1) 405 0 [] ls st h)) ∧
  (∀ (ls : zL) (st : zS) (h : zH), zx 219 405 ls st h = zgo 219 (zpure .iadd 406 0 [] ls st h)) ∧
  (∀ (ls : zL) (st : zS) (h : zH), zx 219 406 ls st h = zgo 219 (zpure .iaload 407 0 [] ls st h)) ∧
  (∀ (ls : zL) (st : zS) (h : zH), zx 219 407 ls st h = zgo 219 (zpure (.aload_n 3) 408 0 [] ls st h)) ∧
  (∀ (ls : zL) (st : zS) (h : zH), zx 219 408 ls st h = zca 219 408 411 ls 190 4 0 (ztake 3 st) h) ∧
  (∀ (ls : zL) (st : zS) (h : zH), zx 219 411 ls st h = zgo 219 (zpure (.istore 6) 413 0 [] ls st h)) ∧
  (∀ (ls : zL) (st : zS) (h : zH), zx 219 413 ls st h = zgo 219 (zpure (.aload_n 2) 414 0 [] ls st h)) ∧
  (∀ (ls : zL) (st : zS) (h : zH), zx 219 414 ls st h = zgo 219 (zpure (.aload_n 0) 415 0 [] ls st h)) ∧
  (∀ (ls : zL) (st : zS) (h : zH), zx 219 415 ls st h = zgo 219 (zpure (.iload 5) 417 0 [] ls st h)) ∧
  (∀ (ls : zL) (st : zS) (h : zH), zx 219 417 ls st h = zgo 219 (zpure (.iconst 1) 418 0 [] ls st h)) :=
  ⟨zx_0 rfl, zx_0 rfl, zx_0 rfl, zx_0 rfl, zx_2c rfl, zx_0 rfl, zx_0 rfl, zx_0 rfl, zx_0 rfl, zx_0 rfl, zx_0 rfl, zx_0 rfl, zx_0 rfl, zx_0 rfl, zx_0 rfl, zx_0 rfl, zx_0 rfl, zx_0 rfl, zx_0 rfl, zx_0 rfl, zx_0 rfl, zx_0 rfl, zx_0 rfl, zx_0 rfl, zx_0 rfl, zx_0 rfl, zx_0 rfl, zx_2c rfl, zx_0 rfl, zx_0 rfl, zx_2c rfl, zx_0 rfl, zx_0 rfl, zx_0 rfl, zx_1 rfl, zx_0 rfl, zx_0 rfl, zx_0 rfl, zx_0 rfl, zx_0 rfl, zx_0 rfl, zx_0 rfl, zx_0 rfl, zx_0 rfl, zx_0 rfl, zx_1 rfl, zx_0 rfl, zx_0 rfl, zx_0 rfl, zx_0 rfl, zx_0 rfl, zx_0 rfl, zx_0 rfl, zx_0 rfl, zx_2c rfl, zx_0 rfl, zx_0 rfl, zx_0 rfl, zx_0 rfl, zx_0 rfl⟩
set_option maxRecDepth 4000 in
theorem z219_b3 :
  (∀ (ls : zL) (st : zS) (h : zH), zx 219 418 ls st h = zgo 219 (zpure .iadd 419 0 [] ls st h)) ∧
  (∀ (ls : zL) (st : zS) (h : zH), zx 219 419 ls st h = zgo 219 (zpure .iaload 420 0 [] ls st h)) ∧
  (∀ (ls : zL) (st : zS) (h : zH), zx 219 420 ls st h = zca 219 420 423 ls 111 2 7 (ztake 2 st) h) ∧
  (∀ (ls : zL) (st : zS) (h : zH), zx 219 423 ls st h = zgo 219 (zpure (.istore 7) 425 0 [] ls st h)) ∧
  (∀ (ls : zL) (st : zS) (h : zH), zx 219 425 ls st h = zgo 219 (zpure (.aload_n 2) 426 0 [] ls st h)) ∧
  (∀ (ls : zL) (st : zS) (h : zH), zx 219 426 ls st h = zca 219 426 429 ls 103 1 7 (ztake 1 st) h) ∧
  (∀ (ls : zL) (st : zS) (h : zH), zx 219 429 ls st h = zgo 219 (zpure (.iload 6) 431 0 [] ls st h)) ∧
  (∀ (ls : zL) (st : zS) (h : zH), zx 219 431 ls st h = zgo 219 (zpure (.if_icmp .eq 5) 434 436 [] ls st h)) ∧
  (∀ (ls : zL) (st : zS) (h : zH), zx 219 434 ls st h = zgo 219 (zpure (.iconst 0) 435 0 [] ls st h)) ∧
  (∀ (ls : zL) (st : zS) (h : zH), zx 219 435 ls st h = zret 1 st h) ∧
  (∀ (ls : zL) (st : zS) (h : zH), zx 219 436 ls st h = zgo 219 (zpure (.iload 6) 438 0 [] ls st h)) ∧
  (∀ (ls : zL) (st : zS) (h : zH), zx 219 438 ls st h = zgo 219 (zpure (.ifCond .ne 15) 441 453 [] ls st h)) ∧
  (∀ (ls : zL) (st : zS) (h : zH), zx 219 441 ls st h = zgo 219 (zpure (.aload_n 3) 442 0 [] ls st h)) ∧
  (∀ (ls : zL) (st : zS) (h : zH), zx 219 442 ls st h = zgo 219 (zpure (.iconst 0) 443 0 [] ls st h)) ∧
  (∀ (ls : zL) (st : zS) (h : zH), zx 219 443 ls st h = zgo 219 (zpure .laload 444 0 [] ls st h)) ∧
  (∀ (ls : zL) (st : zS) (h : zH), zx 219 444 ls st h = zgo 219 (zpure (.iload 7) 446 0 [] ls st h)) ∧
  (∀ (ls : zL) (st : zS) (h : zH), zx 219 446 ls st h = zgo 219 (zpure .i2l 447 0 [] ls st h)) ∧
  (∀ (ls : zL) (st : zS) (h : zH), zx 219 447 ls st h = zgo 219 (zpure .lcmp 448 0 [] ls st h)) ∧
  (∀ (ls : zL) (st : zS) (h : zH), zx 219 448 ls st h = zgo 219 (zpure (.ifCond .eq 5) 451 453 [] ls st h)) ∧
  (∀ (ls : zL) (st : zS) (h : zH), zx 219 451 ls st h = zgo 219 (zpure (.iconst 0) 452 0 [] ls st h)) ∧
  (∀ (ls : zL) (st : zS) (h : zH), zx 219 452 ls st h = zret 1 st h) ∧
  (∀ (ls : zL) (st : zS) (h : zH), zx 219 453 ls st h = zgo 219 (zpure (.goto 1815) 456 2268 [] ls st h)) ∧
  (∀ (ls : zL) (st : zS) (h : zH), zx 219 456 ls st h = zgo 219 (zpure (.aload_n 1) 457 0 [] ls st h)) ∧
  (∀ (ls : zL) (st : zS) (h : zH), zx 219 457 ls st h = zgo 219 (zpure (.aload_n 0) 458 0 [] ls st h)) ∧
  (∀ (ls : zL) (st : zS) (h : zH), zx 219 458 ls st h = zgo 219 (zpure (.iload 5) 460 0 [] ls st h)) ∧
  (∀ (ls : zL) (st : zS) (h : zH), zx 219 460 ls st h = zgo 219 (zpure (.iconst 1) 461 0 [] ls st h)) ∧
  (∀ (ls : zL) (st : zS) (h : zH), zx 219 461 ls st h = zgo 219 (zpure .iadd 462 0 [] ls st h)) ∧
  (∀ (ls : zL) (st : zS) (h : zH), zx 219 462 ls st h = zgo 219 (zpure .iaload 463 0 [] ls st h)) ∧
  (∀ (ls : zL) (st : zS) (h : zH), zx 219 463 ls st h = zgo 219 (zpure (.aload_n 0) 464 0 [] ls st h)) ∧
  (∀ (ls : zL) (st : zS) (h : zH), zx 219 464 ls st h = zgo 219 (zpure (.iload 5) 466 0 [] ls st h)) ∧
  (∀ (ls : zL) (st : zS) (h : zH), zx 219 466 ls st h = zgo 219 (zpure (.iconst 2) 467 0 [] ls st h)) ∧
  (∀ (ls : zL) (st : zS) (h : zH), zx 219 467 ls st h = zgo 219 (zpure .iadd 468 0 [] ls st h)) ∧
  (∀ (ls : zL) (st : zS) (h : zH), zx 219 468 ls st h = zgo 219 (zpure .iaload 469 0 [] ls st h)) ∧
  (∀ (ls : zL) (st : zS) (h : zH), zx 219 469 ls st h = zgo 219 (zpure (.aload_n 3) 470 0 [] ls st h)) ∧
  (∀ (ls : zL) (st : zS) (h : zH), zx 219 470 ls st h = zca 219 470 473 ls 191 5 0 (ztake 4 st) h) ∧
  (∀ (ls : zL) (st : zS) (h : zH), zx 219 473 ls st h = zgo 219 (zpure (.istore 6) 475 0 [] ls st h)) ∧
  (∀ (ls : zL) (st : zS) (h : zH), zx 219 475 ls st h = zgo 219 (zpure (.aload_n 2) 476 0 [] ls st h)) ∧
  (∀ (ls : zL) (st : zS) (h : zH), zx 219 476 ls st h = zgo 219 (zpure (.aload_n 0) 477 0 [] ls st h)) ∧
  (∀ (ls : zL) (st : zS) (h : zH), zx 219 477 ls st h = zgo 219 (zpure (.iload 5) 479 0 [] ls st h)) ∧
  (∀ (ls : zL) (st : zS) (h : zH), zx 219 479 ls st h = zgo 219 (zpure (.iconst 1) 480 0 [] ls st h)) ∧
  (∀ (ls : zL) (st : zS) (h : zH), zx 219 480 ls st h = zgo 219 (zpure .iadd 481 0 [] ls st h)) ∧
  (∀ (ls : zL) (st : zS) (h : zH), zx 219 481 ls st h = zgo 219 (zpure .iaload 482 0 [] ls st h)) ∧
  (∀ (ls : zL) (st : zS) (h : zH), zx 219 482 ls st h = zgo 219 (zpure (.aload_n 0) 483 0 [] ls st h)) ∧
  (∀ (ls : zL) (st : zS) (h : zH), zx 219 483 ls st h = zgo 219 (zpure (.iload 5) 485 0 [] ls st h)) ∧
  (∀ (ls : zL) (st : zS) (h : zH), zx 219 485 ls st h = zgo 219 (zpure (.iconst 2) 486 0 [] ls st h)) ∧
  (∀ (ls : zL) (st : zS) (h : zH), zx 219 486 ls st h = zgo 219 (zpure .iadd 487 0 [] ls st h)) ∧
  (∀ (ls : zL) (st : zS) (h : zH), zx 219 487 ls st h = zgo 219 (zpure .iaload 488 0 [] ls st h)) ∧
  (∀ (ls : zL) (st : zS) (h : zH), zx 219 488 ls st h = zca 219 488 491 ls 112 3 7 (ztake 3 st) h) ∧
  (∀ (ls : zL) (st : zS) (h : zH), zx 219 491 ls st h = zgo 219 (zpure (.istore 7) 493 0 [] ls st h)) ∧
  (∀ (ls : zL) (st : zS) (h : zH), zx 219 493 ls st h = zgo 219 (zpure (.aload_n 2) 494 0 [] ls st h)) ∧
  (∀ (ls : zL) (st : zS) (h : zH), zx 219 494 ls st h = zca 219 494 497 ls 103 1 7 (ztake 1 st) h) ∧
  (∀ (ls : zL) (st : zS) (h : zH), zx 219 497 ls st h = zgo 219 (zpure (.iload 6) 499 0 [] ls st h)) ∧
  (∀ (ls : zL) (st : zS) (h : zH), zx 219 499 ls st h = zgo 219 (zpure (.if_icmp .eq 5) 502 504 [] ls st h)) ∧
  (∀ (ls : zL) (st : zS) (h : zH), zx 219 502 ls st h = zgo 219 (zpure (.iconst 0) 503 0 [] ls st h)) ∧
  (∀ (ls : zL) (st : zS) (h : zH), zx 219 503 ls st h = zret 1 st h) ∧
  (∀ (ls : zL) (st : zS) (h : zH), zx 219 504 ls st h = zgo 219 (zpure (.iload 6) 506 0 [] ls st h)) ∧
  (∀ (ls : zL) (st : zS) (h : zH), zx 219 506 ls st h = zgo 219 (zpure (.ifCond .ne 15) 509 521 [] ls st h)) ∧
  (∀ (ls : zL) (st : zS) (h : zH), zx 219 509 ls st h = zgo 219 (zpure (.aload_n 3) 510 0 [] ls st h)) ∧
  (∀ (ls : zL) (st : zS) (h : zH), zx 219 510 ls st h = zgo 219 (zpure (.iconst 0) 511 0 [] ls st h)) ∧
  (∀ (ls : zL) (st : zS) (h : zH), zx 219 511 ls st h = zgo 219 (zpure .laload 512 0 [] ls st h)) :=
  ⟨zx_0 rfl, zx_0 rfl, zx_2c rfl, zx_0 rfl, zx_0 rfl, zx_2c rfl, zx_0 rfl, zx_0 rfl, zx_0 rfl, zx_1 rfl, zx_0 rfl, zx_0 rfl, zx_0 rfl, zx_0 rfl, zx_0 rfl, zx_0 rfl, zx_0 rfl, zx_0 rfl, zx_0 rfl, zx_0 rfl, zx_1 rfl, zx_0 rfl, zx_0 rfl, zx_0 rfl, zx_0 rfl, zx_0 rfl, zx_0 rfl, zx_0 rfl, zx_0 rfl, zx_0 rfl, zx_0 rfl, zx_0 rfl, zx_0 rfl, zx_0 rfl, zx_2c rfl, zx_0 rfl, zx_0 rfl, zx_0 rfl, zx_0 rfl, zx_0 rfl, zx_0 rfl, zx_0 rfl, zx_0 rfl, zx_0 rfl, zx_0 rfl, zx_0 rfl, zx_0 rfl, zx_2c rfl, zx_0 rfl, zx_0 rfl, zx_2c rfl, zx_0 rfl, zx_0 rfl, zx_0 rfl, zx_1 rfl, zx_0 rfl, zx_0 rfl, zx_0 rfl, zx_0 rfl, zx_0 rfl⟩
set_option maxRecDepth 4000 in
theorem z219_b4 :
  (∀ (ls : zL) (st : zS) (h : zH), zx 219 512 ls st h = zgo 219 (zpure (.iload 7) 514 0 [] ls st h)) ∧
  (∀ (ls : zL) (st : zS) (h : zH), zx 219 514 ls st h = zgo 219 (zpure .i2l 515 0 [] ls st h)) ∧
  (∀ (ls : zL) (st : zS) (h : zH), zx 219 515 ls st h = zgo 219 (zpure .lcmp 516 0 [] ls st h)) ∧
  (∀ (ls : zL) (st : zS) (h : zH), zx 219 516 ls st h = zgo 219 (zpure (.ifCond .eq 5) 519 521 [] ls st h)) ∧
  (∀ (ls : zL) (st : zS) (h : zH), zx 219 519 ls st h = zgo 219 (zpure (.iconst 0) 520 0 [] ls st h)) ∧
  (∀ (ls : zL) (st : zS) (h : zH), zx 219 520 ls st h = zret 1 st h) ∧
  (∀ (ls : zL) (st : zS) (h : zH), zx 219 521 ls st h = zgo 219 (zpure (.goto 1747) 524 2268 [] ls st h)) ∧
  (∀ (ls : zL) (st : zS) (h : zH), zx 219 524 ls st h = zgo 219 (zpure (.aload_n 1) 525 0 [] ls st h)) ∧
  (∀ (ls : zL) (st : zS) (h : zH), zx 219 525 ls st h = zgo 219 (zpure (.aload_n 0) 526 0 [] ls st h)) ∧
  (∀ (ls : zL) (st : zS) (h : zH), zx 219 526 ls st h = zgo 219 (zpure (.iload 5) 528 0 [] ls st h)) ∧
  (∀ (ls : zL) (st : zS) (h : zH), zx 219 528 ls st h = zgo 219 (zpure (.iconst 1) 529 0 [] ls st h)) ∧
  (∀ (ls : zL) (st : zS) (h : zH), zx 219 529 ls st h = zgo 219 (zpure .iadd 530 0 [] ls st h)) ∧
  (∀ (ls : zL) (st : zS) (h : zH), zx 219 530 ls st h = zgo 219 (zpure .iaload 531 0 [] ls st h)) ∧
  (∀ (ls : zL) (st : zS) (h : zH), zx 219 531 ls st h = zgo 219 (zpure (.aload_n 0) 532 0 [] ls st h)) ∧
  (∀ (ls : zL) (st : zS) (h : zH), zx 219 532 ls st h = zgo 219 (zpure (.iload 5) 534 0 [] ls st h)) ∧
  (∀ (ls : zL) (st : zS) (h : zH), zx 219 534 ls st h = zgo 219 (zpure (.iconst 2) 535 0 [] ls st h)) ∧
  (∀ (ls : zL) (st : zS) (h : zH), zx 219 535 ls st h = zgo 219 (zpure .iadd 536 0 [] ls st h)) ∧
  (∀ (ls : zL) (st : zS) (h : zH), zx 219 536 ls st h = zgo 219 (zpure .iaload 537 0 [] ls st h)) ∧
  (∀ (ls : zL) (st : zS) (h : zH), zx 219 537 ls st h = zgo 219 (zpure (.aload_n 0) 538 0 [] ls st h)) ∧
  (∀ (ls : zL) (st : zS) (h : zH), zx 219 538 ls st h = zgo 219 (zpure (.iload 5) 540 0 [] ls st h)) ∧
  (∀ (ls : zL) (st : zS) (h : zH), zx 219 540 ls st h = zgo 219 (zpure (.iconst 3) 541 0 [] ls st h)) ∧
  (∀ (ls : zL) (st : zS) (h : zH), zx 219 541 ls st h = zgo 219 (zpure .iadd 542 0 [] ls st h)) ∧
  (∀ (ls : zL) (st : zS) (h : zH), zx 219 542 ls st h = zgo 219 (zpure .iaload 543 0 [] ls st h)) ∧
  (∀ (ls : zL) (st : zS) (h : zH), zx 219 543 ls st h = zgo 219 (zpure .i2c 544 0 [] ls st h)) ∧
  (∀ (ls : zL) (st : zS) (h : zH), zx 219 544 ls st h = zgo 219 (zpure (.aload_n 0) 545 0 [] ls st h)) ∧
  (∀ (ls : zL) (st : zS) (h : zH), zx 219 545 ls st h = zgo 219 (zpure (.iload 5) 547 0 [] ls st h)) ∧
  (∀ (ls : zL) (st : zS) (h : zH), zx 219 547 ls st h = zgo 219 (zpure (.iconst 4) 548 0 [] ls st h)) ∧
  (∀ (ls : zL) (st : zS) (h : zH), zx 219 548 ls st h = zgo 219 (zpure .iadd 549 0 [] ls st h)) ∧
  (∀ (ls : zL) (st : zS) (h : zH), zx 219 549 ls st h = zgo 219 (zpure .iaload 550 0 [] ls st h)) ∧
  (∀ (ls : zL) (st : zS) (h : zH), zx 219 550 ls st h = zgo 219 (zpure (.aload_n 3) 551 0 [] ls st h)) ∧
  (∀ (ls : zL) (st : zS) (h : zH), zx 219 551 ls st h = zca 219 551 554 ls 192 7 0 (ztake 6 st) h) ∧
  (∀ (ls : zL) (st : zS) (h : zH), zx 219 554 ls st h = zgo 219 (zpure (.istore 6) 556 0 [] ls st h)) ∧
  (∀ (ls : zL) (st : zS) (h : zH), zx 219 556 ls st h = zgo 219 (zpure (.aload_n 2) 557 0 [] ls st h)) ∧
  (∀ (ls : zL) (st : zS) (h : zH), zx 219 557 ls st h = zgo 219 (zpure (.aload_n 0) 558 0 [] ls st h)) ∧
  (∀ (ls : zL) (st : zS) (h : zH), zx 219 558 ls st h = zgo 219 (zpure (.iload 5) 560 0 [] ls st h)) ∧
  (∀ (ls : zL) (st : zS) (h : zH), zx 219 560 ls st h = zgo 219 (zpure (.iconst 1) 561 0 [] ls st h)) ∧
  (∀ (ls : zL) (st : zS) (h : zH), zx 219 561 ls st h = zgo 219 (zpure .iadd 562 0 [] ls st h)) ∧
  (∀ (ls : zL) (st : zS) (h : zH), zx 219 562 ls st h = zgo 219 (zpure .iaload 563 0 [] ls st h)) ∧
  (∀ (ls : zL) (st : zS) (h : zH), zx 219 563 ls st h = zgo 219 (zpure (.aload_n 0) 564 0 [] ls st h)) ∧
  (∀ (ls : zL) (st : zS) (h : zH), zx 219 564 ls st h = zgo 219 (zpure (.iload 5) 566 0 [] ls st h)) ∧
  (∀ (ls : zL) (st : zS) (h : zH), zx 219 566 ls st h = zgo 219 (zpure (.iconst 2) 567 0 [] ls st h)) ∧
  (∀ (ls : zL) (st : zS) (h : zH), zx 219 567 ls st h = zgo 219 (zpure .iadd 568 0 [] ls st h)) ∧
  (∀ (ls : zL) (st : zS) (h : zH), zx 219 568 ls st h = zgo 219 (zpure .iaload 569 0 [] ls st h)) ∧
  (∀ (ls : zL) (st : zS) (h : zH), zx 219 569 ls st h = zgo 219 (zpure (.aload_n 0) 570 0 [] ls st h)) ∧
  (∀ (ls : zL) (st : zS) (h : zH), zx 219 570 ls st h = zgo 219 (zpure (.iload 5) 572 0 [] ls st h)) ∧
  (∀ (ls : zL) (st : zS) (h : zH), zx 219 572 ls st h = zgo 219 (zpure (.iconst 3) 573 0 [] ls st h)) ∧
  (∀ (ls : zL) (st : zS) (h : zH), zx 219 573 ls st h = zgo 219 (zpure .iadd 574 0 [] ls st h)) ∧
  (∀ (ls : zL) (st : zS) (h : zH), zx 219 574 ls st h = zgo 219 (zpure .iaload 575 0 [] ls st h)) ∧
  (∀ (ls : zL) (st : zS) (h : zH), zx 219 575 ls st h = zgo 219 (zpure .i2c 576 0 [] ls st h)) ∧
  (∀ (ls : zL) (st : zS) (h : zH), zx 219 576 ls st h = zgo 219 (zpure (.aload_n 0) 577 0 [] ls st h)) ∧
  (∀ (ls : zL) (st : zS) (h : zH), zx 219 577 ls st h = zgo 219 (zpure (.iload 5) 579 0 [] ls st h)) ∧
  (∀ (ls : zL) (st : zS) (h : zH), zx 219 579 ls st h = zgo 219 (zpure (.iconst 4) 580 0 [] ls st h)) ∧
  (∀ (ls : zL) (st : zS) (h : zH), zx 219 580 ls st h = zgo 219 (zpure .iadd 581 0 [] ls st h)) ∧
  (∀ (ls : zL) (st : zS) (h : zH), zx 219 581 ls st h = zgo 219 (zpure .iaload 582 0 [] ls st h)) ∧
  (∀ (ls : zL) (st : zS) (h : zH), zx 219 582 ls st h = zca 219 582 585 ls 115 7 7 (ztake 5 st) h) ∧
  (∀ (ls : zL) (st : zS) (h : zH), zx 219 585 ls st h = zgo 219 (zpure (.istore 7) 587 0 [] ls st h)) ∧
  (∀ (ls : zL) (st : zS) (h : zH), zx 219 587 ls st h = zgo 219 (zpure (.aload_n 2) 588 0 [] ls st h)) ∧
  (∀ (ls : zL) (st : zS) (h : zH), zx 219 588 ls st h = zca 219 588 591 ls 103 1 7 (ztake 1 st) h) ∧
  (∀ (ls : zL) (st : zS) (h : zH), zx 219 591 ls st h = zgo 219 (zpure (.iload 6) 593 0 [] ls st h)) ∧
  (∀ (ls : zL) (st : zS) (h : zH), zx 219 593 ls st h = zgo 219 (zpure (.if_icmp .eq 5) 596 598 [] ls st h)) :=
  ⟨zx_0 rfl, zx_0 rfl, zx_0 rfl, zx_0 rfl, zx_0 rfl, zx_1 rfl, zx_0 rfl, zx_0 rfl, zx_0 rfl, zx_0 rfl, zx_0 rfl, zx_0 rfl, zx_0 rfl, zx_0 rfl, zx_0 rfl, zx_0 rfl, zx_0 rfl, zx_0 rfl, zx_0 rfl, zx_0 rfl, zx_0 rfl, zx_0 rfl, zx_0 rfl, zx_0 rfl, zx_0 rfl, zx_0 rfl, zx_0 rfl, zx_0 rfl, zx_0 rfl, zx_0 rfl, zx_2c rfl, zx_0 rfl, zx_0 rfl, zx_0 rfl, zx_0 rfl, zx_0 rfl, zx_0 rfl, zx_0 rfl, zx_0 rfl, zx_0 rfl, zx_0 rfl, zx_0 rfl, zx_0 rfl, zx_0 rfl, zx_0 rfl, zx_0 rfl, zx_0 rfl, zx_0 rfl, zx_0 rfl, zx_0 rfl, zx_0 rfl, zx_0 rfl, zx_0 rfl, zx_0 rfl, zx_2c rfl, zx_0 rfl, zx_0 rfl, zx_2c rfl, zx_0 rfl, zx_0 rfl⟩
set_option maxRecDepth 4000 in
theorem z219_b5 :
  (∀ (ls : zL) (st : zS) (h : zH), zx 219 596 ls st h = zgo 219 (zpure (.iconst 0) 597 0 [] ls st h)) ∧
  (∀ (ls : zL) (st : zS) (h : zH), zx 219 597 ls st h = zret 1 st h) ∧
  (∀ (ls : zL) (st : zS) (h : zH), zx 219 598 ls st h = zgo 219 (zpure (.iload 6) 600 0 [] ls st h)) ∧
  (∀ (ls : zL) (st : zS) (h : zH), zx 219 600 ls st h = zgo 219 (zpure (.ifCond .ne 15) 603 615 [] ls st h)) ∧
  (∀ (ls : zL) (st : zS) (h : zH), zx 219 603 ls st h = zgo 219 (zpure (.aload_n 3) 604 0 [] ls st h)) ∧
  (∀ (ls : zL) (st : zS) (h : zH), zx 219 604 ls st h = zgo 219 (zpure (.iconst 0) 605 0 [] ls st h)) ∧
  (∀ (ls : zL) (st : zS) (h : zH), zx 219 605 ls st h = zgo 219 (zpure .laload 606 0 [] ls st h)) ∧
  (∀ (ls : zL) (st : zS) (h : zH), zx 219 606 ls st h = zgo 219 (zpure (.iload 7) 608 0 [] ls st h)) ∧
  (∀ (ls : zL) (st : zS) (h : zH), zx 219 608 ls st h = zgo 219 (zpure .i2l 609 0 [] ls st h)) ∧
  (∀ (ls : zL) (st : zS) (h : zH), zx 219 609 ls st h = zgo 219 (zpure .lcmp 610 0 [] ls st h)) ∧
  (∀ (ls : zL) (st : zS) (h : zH), zx 219 610 ls st h = zgo 219 (zpure (.ifCond .eq 5) 613 615 [] ls st h)) ∧
  (∀ (ls : zL) (st : zS) (h : zH), zx 219 613 ls st h = zgo 219 (zpure (.iconst 0) 614 0 [] ls st h)) ∧
  (∀ (ls : zL) (st : zS) (h : zH), zx 219 614 ls st h = zret 1 st h) ∧
  (∀ (ls : zL) (st : zS) (h : zH), zx 219 615 ls st h = zgo 219 (zpure (.goto 1653) 618 2268 [] ls st h)) ∧
  (∀ (ls : zL) (st : zS) (h : zH), zx 219 618 ls st h = zgo 219 (zpure (.aload_n 1) 619 0 [] ls st h)) ∧
  (∀ (ls : zL) (st : zS) (h : zH), zx 219 619 ls st h = zgo 219 (zpure (.aload_n 0) 620 0 [] ls st h)) ∧
  (∀ (ls : zL) (st : zS) (h : zH), zx 219 620 ls st h = zgo 219 (zpure (.iload 5) 622 0 [] ls st h)) ∧
  (∀ (ls : zL) (st : zS) (h : zH), zx 219 622 ls st h = zgo 219 (zpure (.iconst 1) 623 0 [] ls st h)) ∧
  (∀ (ls : zL) (st : zS) (h : zH), zx 219 623 ls st h = zgo 219 (zpure .iadd 624 0 [] ls st h)) ∧
  (∀ (ls : zL) (st : zS) (h : zH), zx 219 624 ls st h = zgo 219 (zpure .iaload 625 0 [] ls st h)) ∧
  (∀ (ls : zL) (st : zS) (h : zH), zx 219 625 ls st h = zgo 219 (zpure (.aload_n 3) 626 0 [] ls st h)) ∧
  (∀ (ls : zL) (st : zS) (h : zH), zx 219 626 ls st h = zca 219 626 629 ls 193 4 0 (ztake 3 st) h) ∧
  (∀ (ls : zL) (st : zS) (h : zH), zx 219 629 ls st h = zgo 219 (zpure (.istore 6) 631 0 [] ls st h)) ∧
  (∀ (ls : zL) (st : zS) (h : zH), zx 219 631 ls st h = zgo 219 (zpure (.aload_n 2) 632 0 [] ls st h)) ∧
  (∀ (ls : zL) (st : zS) (h : zH), zx 219 632 ls st h = zgo 219 (zpure (.aload_n 0) 633 0 [] ls st h)) ∧
  (∀ (ls : zL) (st : zS) (h : zH), zx 219 633 ls st h = zgo 219 (zpure (.iload 5) 635 0 [] ls st h)) ∧
  (∀ (ls : zL) (st : zS) (h : zH), zx 219 635 ls st h = zgo 219 (zpure (.iconst 1) 636 0 [] ls st h)) ∧
  (∀ (ls : zL) (st : zS) (h : zH), zx 219 636 ls st h = zgo 219 (zpure .iadd 637 0 [] ls st h)) ∧
  (∀ (ls : zL) (st : zS) (h : zH), zx 219 637 ls st h = zgo 219 (zpure .iaload 638 0 [] ls st h)) ∧
  (∀ (ls : zL) (st : zS) (h : zH), zx 219 638 ls st h = zca 219 638 641 ls 116 3 7 (ztake 2 st) h) ∧
  (∀ (ls : zL) (st : zS) (h : zH), zx 219 641 ls st h = zgo 219 (zpure (.istore 7) 643 0 [] ls st h)) ∧
  (∀ (ls : zL) (st : zS) (h : zH), zx 219 643 ls st h = zgo 219 (zpure (.aload_n 2) 644 0 [] ls st h)) ∧
  (∀ (ls : zL) (st : zS) (h : zH), zx 219 644 ls st h = zca 219 644 647 ls 103 1 7 (ztake 1 st) h) ∧
  (∀ (ls : zL) (st : zS) (h : zH), zx 219 647 ls st h = zgo 219 (zpure (.iload 6) 649 0 [] ls st h)) ∧
  (∀ (ls : zL) (st : zS) (h : zH), zx 219 649 ls st h = zgo 219 (zpure (.if_icmp .eq 5) 652 654 [] ls st h)) ∧
  (∀ (ls : zL) (st : zS) (h : zH), zx 219 652 ls st h = zgo 219 (zpure (.iconst 0) 653 0 [] ls st h)) ∧
  (∀ (ls : zL) (st : zS) (h : zH), zx 219 653 ls st h = zret 1 st h) ∧
  (∀ (ls : zL) (st : zS) (h : zH), zx 219 654 ls st h = zgo 219 (zpure (.iload 6) 656 0 [] ls st h)) ∧
  (∀ (ls : zL) (st : zS) (h : zH), zx 219 656 ls st h = zgo 219 (zpure (.ifCond .ne 15) 659 671 [] ls st h)) ∧
  (∀ (ls : zL) (st : zS) (h : zH), zx 219 659 ls st h = zgo 219 (zpure (.aload_n 3) 660 0 [] ls st h)) ∧
  (∀ (ls : zL) (st : zS) (h : zH), zx 219 660 ls st h = zgo 219 (zpure (.iconst 0) 661 0 [] ls st h)) ∧
  (∀ (ls : zL) (st : zS) (h : zH), zx 219 661 ls st h = zgo 219 (zpure .laload 662 0 [] ls st h)) ∧
  (∀ (ls : zL) (st : zS) (h : zH), zx 219 662 ls st h = zgo 219 (zpure (.iload 7) 664 0 [] ls st h)) ∧
  (∀ (ls : zL) (st : zS) (h : zH), zx 219 664 ls st h = zgo 219 (zpure .i2l 665 0 [] ls st h)) ∧
  (∀ (ls : zL) (st : zS) (h : zH), zx 219 665 ls st h = zgo 219 (zpure .lcmp 666 0 [] ls st h)) ∧
  (∀ (ls : zL) (st : zS) (h : zH), zx 219 666 ls st h = zgo 219 (zpure (.ifCond .eq 5) 669 671 [] ls st h)) ∧
  (∀ (ls : zL) (st : zS) (h : zH), zx 219 669 ls st h = zgo 219 (zpure (.iconst 0) 670 0 [] ls st h)) ∧
  (∀ (ls : zL) (st : zS) (h : zH), zx 219 670 ls st h = zret 1 st h) ∧
  (∀ (ls : zL) (st : zS) (h : zH), zx 219 671 ls st h = zgo 219 (zpure (.goto 1597) 674 2268 [] ls st h)) ∧
  (∀ (ls : zL) (st : zS) (h : zH), zx 219 674 ls st h = zgo 219 (zpure (.aload_n 1) 675 0 [] ls st h)) ∧
  (∀ (ls : zL) (st : zS) (h : zH), zx 219 675 ls st h = zgo 219 (zpure (.aload_n 0) 676 0 [] ls st h)) ∧
  (∀ (ls : zL) (st : zS) (h : zH), zx 219 676 ls st h = zgo 219 (zpure (.iload 5) 678 0 [] ls st h)) ∧
  (∀ (ls : zL) (st : zS) (h : zH), zx 219 678 ls st h = zgo 219 (zpure (.iconst 1) 679 0 [] ls st h)) ∧
  (∀ (ls : zL) (st : zS) (h : zH), zx 219 679 ls st h = zgo 219 (zpure .iadd 680 0 [] ls st h)) ∧
  (∀ (ls : zL) (st : zS) (h : zH), zx 219 680 ls st h = zgo 219 (zpure .iaload 681 0 [] ls st h)) ∧
  (∀ (ls : zL) (st : zS) (h : zH), zx 219 681 ls st h = zgo 219 (zpure (.aload_n 0) 682 0 [] ls st h)) ∧
  (∀ (ls : zL) (st : zS) (h : zH), zx 219 682 ls st h = zgo 219 (zpure (.iload 5) 684 0 [] ls st h)) ∧
  (∀ (ls : zL) (st : zS) (h : zH), zx 219 684 ls st h = zgo 219 (zpure (.iconst 2) 685 0 [] ls st h)) ∧
  (∀ (ls : zL) (st : zS) (h : zH), zx 219 685 ls st h = zgo 219 (zpure .iadd 686 0 [] ls st h)) ∧
  (∀ (ls : zL) (st : zS) (h : zH), zx 219 686 ls st h = zgo 219 (zpure .iaload 687 0 [] ls st h)) :=
  ⟨zx_0 rfl, zx_1 rfl, zx_0 rfl, zx_0 rfl, zx_0 rfl, zx_0 rfl, zx_0 rfl, zx_0 rfl, zx_0 rfl, zx_0 rfl, zx_0 rfl, zx_0 rfl, zx_1 rfl, zx_0 rfl, zx_0 rfl, zx_0 rfl, zx_0 rfl, zx_0 rfl, zx_0 rfl, zx_0 rfl, zx_0 rfl, zx_2c rfl, zx_0 rfl, zx_0 rfl, zx_0 rfl, zx_0 rfl, zx_0 rfl, zx_0 rfl, zx_0 rfl, zx_2c rfl, zx_0 rfl, zx_0 rfl, zx_2c rfl, zx_0 rfl, zx_0 rfl, zx_0 rfl, zx_1 rfl, zx_0 rfl, zx_0 rfl, zx_0 rfl, zx_0 rfl, zx_0 rfl, zx_0 rfl, zx_0 rfl, zx_0 rfl, zx_0 rfl, zx_0 rfl, zx_1 rfl, zx_0 rfl, zx_0 rfl, zx_0 rfl, zx_0 rfl, zx_0 rfl, zx_0 rfl, zx_0 rfl, zx_0 rfl, zx_0 rfl, zx_0 rfl, zx_0 rfl, zx_0 rfl⟩
set_option maxRecDepth 4000 in
theorem z219_b6 :
  (∀ (ls : zL) (st : zS) (h : zH), zx 219 687 ls st h = zgo 219 (zpure (.aload_n 3) 688 0 [] ls st h)) ∧
  (∀ (ls : zL) (st : zS) (h : zH), zx 219 688 ls st h = zca 219 688 691 ls 194 5 0 (ztake 4 st) h) ∧
  (∀ (ls : zL) (st : zS) (h : zH), zx 219 691 ls st h = zgo 219 (zpure (.istore 6) 693 0 [] ls st h)) ∧
  (∀ (ls : zL) (st : zS) (h : zH), zx 219 693 ls st h = zgo 219 (zpure (.aload_n 2) 694 0 [] ls st h)) ∧
  (∀ (ls : zL) (st : zS) (h : zH), zx 219 694 ls st h = zgo 219 (zpure (.aload_n 0) 695 0 [] ls st h)) ∧
  (∀ (ls : zL) (st : zS) (h : zH), zx 219 695 ls st h = zgo 219 (zpure (.iload 5) 697 0 [] ls st h)) ∧
  (∀ (ls : zL) (st : zS) (h : zH), zx 219 697 ls st h = zgo 219 (zpure (.iconst 1) 698 0 [] ls st h)) ∧
  (∀ (ls : zL) (st : zS) (h : zH), zx 219 698 ls st h = zgo 219 (zpure .iadd 699 0 [] ls st h)) ∧
  (∀ (ls : zL) (st : zS) (h : zH), zx 219 699 ls st h = zgo 219 (zpure .iaload 700 0 [] ls st h)) ∧
  (∀ (ls : zL) (st : zS) (h : zH), zx 219 700 ls st h = zgo 219 (zpure (.aload_n 0) 701 0 [] ls st h)) ∧
  (∀ (ls : zL) (st : zS) (h : zH), zx 219 701 ls st h = zgo 219 (zpure (.iload 5) 703 0 [] ls st h)) ∧
  (∀ (ls : zL) (st : zS) (h : zH), zx 219 703 ls st h = zgo 219 (zpure (.iconst 2) 704 0 [] ls st h)) ∧
  (∀ (ls : zL) (st : zS) (h : zH), zx 219 704 ls st h = zgo 219 (zpure .iadd 705 0 [] ls st h)) ∧
  (∀ (ls : zL) (st : zS) (h : zH), zx 219 705 ls st h = zgo 219 (zpure .iaload 706 0 [] ls st h)) ∧
  (∀ (ls : zL) (st : zS) (h : zH), zx 219 706 ls st h = zca 219 706 709 ls 117 7 7 (ztake 3 st) h) ∧
  (∀ (ls : zL) (st : zS) (h : zH), zx 219 709 ls st h = zgo 219 (zpure (.istore 7) 711 0 [] ls st h)) ∧
  (∀ (ls : zL) (st : zS) (h : zH), zx 219 711 ls st h = zgo 219 (zpure (.aload_n 2) 712 0 [] ls st h)) ∧
  (∀ (ls : zL) (st : zS) (h : zH), zx 219 712 ls st h = zca 219 712 715 ls 103 1 7 (ztake 1 st) h) ∧
  (∀ (ls : zL) (st : zS) (h : zH), zx 219 715 ls st h = zgo 219 (zpure (.iload 6) 717 0 [] ls st h)) ∧
  (∀ (ls : zL) (st : zS) (h : zH), zx 219 717 ls st h = zgo 219 (zpure (.if_icmp .eq 5) 720 722 [] ls st h)) ∧
  (∀ (ls : zL) (st : zS) (h : zH), zx 219 720 ls st h = zgo 219 (zpure (.iconst 0) 721 0 [] ls st h)) ∧
  (∀ (ls : zL) (st : zS) (h : zH), zx 219 721 ls st h = zret 1 st h) ∧
  (∀ (ls : zL) (st : zS) (h : zH), zx 219 722 ls st h = zgo 219 (zpure (.iload 6) 724 0 [] ls st h)) ∧
  (∀ (ls : zL) (st : zS) (h : zH), zx 219 724 ls st h = zgo 219 (zpure (.ifCond .ne 15) 727 739 [] ls st h)) ∧
  (∀ (ls : zL) (st : zS) (h : zH), zx 219 727 ls st h = zgo 219 (zpure (.aload_n 3) 728 0 [] ls st h)) ∧
  (∀ (ls : zL) (st : zS) (h : zH), zx 219 728 ls st h = zgo 219 (zpure (.iconst 0) 729 0 [] ls st h)) ∧
  (∀ (ls : zL) (st : zS) (h : zH), zx 219 729 ls st h = zgo 219 (zpure .laload 730 0 [] ls st h)) ∧
  (∀ (ls : zL) (st : zS) (h : zH), zx 219 730 ls st h = zgo 219 (zpure (.iload 7) 732 0 [] ls st h)) ∧
  (∀ (ls : zL) (st : zS) (h : zH), zx 219 732 ls st h = zgo 219 (zpure .i2l 733 0 [] ls st h)) ∧
  (∀ (ls : zL) (st : zS) (h : zH), zx 219 733 ls st h = zgo 219 (zpure .lcmp 734 0 [] ls st h)) ∧
  (∀ (ls : zL) (st : zS) (h : zH), zx 219 734 ls st h = zgo 219 (zpure (.ifCond .eq 5) 737 739 [] ls st h)) ∧
  (∀ (ls : zL) (st : zS) (h : zH), zx 219 737 ls st h = zgo 219 (zpure (.iconst 0) 738 0 [] ls st h)) ∧
  (∀ (ls : zL) (st : zS) (h : zH), zx 219 738 ls st h = zret 1 st h) ∧
  (∀ (ls : zL) (st : zS) (h : zH), zx 219 739 ls st h = zgo 219 (zpure (.goto 1529) 742 2268 [] ls st h)) ∧
  (∀ (ls : zL) (st : zS) (h : zH), zx 219 742 ls st h = zgo 219 (zpure (.aload_n 1) 743 0 [] ls st h)) ∧
  (∀ (ls : zL) (st : zS) (h : zH), zx 219 743 ls st h = zgo 219 (zpure (.aload_n 0) 744 0 [] ls st h)) ∧
  (∀ (ls : zL) (st : zS) (h : zH), zx 219 744 ls st h = zgo 219 (zpure (.iload 5) 746 0 [] ls st h)) ∧
  (∀ (ls : zL) (st : zS) (h : zH), zx 219 746 ls st h = zgo 219 (zpure (.iconst 1) 747 0 [] ls st h)) ∧
  (∀ (ls : zL) (st : zS) (h : zH), zx 219 747 ls st h = zgo 219 (zpure .iadd 748 0 [] ls st h)) ∧
  (∀ (ls : zL) (st : zS) (h : zH), zx 219 748 ls st h = zgo 219 (zpure .iaload 749 0 [] ls st h)) ∧
  (∀ (ls : zL) (st : zS) (h : zH), zx 219 749 ls st h = zgo 219 (zpure (.aload_n 0) 750 0 [] ls st h)) ∧
  (∀ (ls : zL) (st : zS) (h : zH), zx 219 750 ls st h = zgo 219 (zpure (.iload 5) 752 0 [] ls st h)) ∧
  (∀ (ls : zL) (st : zS) (h : zH), zx 219 752 ls st h = zgo 219 (zpure (.iconst 2) 753 0 [] ls st h)) ∧
  (∀ (ls : zL) (st : zS) (h : zH), zx 219 753 ls st h = zgo 219 (zpure .iadd 754 0 [] ls st h)) ∧
  (∀ (ls : zL) (st : zS) (h : zH), zx 219 754 ls st h = zgo 219 (zpure .iaload 755 0 [] ls st h)) ∧
  (∀ (ls : zL) (st : zS) (h : zH), zx 219 755 ls st h = zgo 219 (zpure (.aload_n 3) 756 0 [] ls st h)) ∧
  (∀ (ls : zL) (st : zS) (h : zH), zx 219 756 ls st h = zca 219 756 759 ls 195 5 0 (ztake 4 st) h) ∧
  (∀ (ls : zL) (st : zS) (h : zH), zx 219 759 ls st h = zgo 219 (zpure (.istore 6) 761 0 [] ls st h)) ∧
  (∀ (ls : zL) (st : zS) (h : zH), zx 219 761 ls st h = zgo 219 (zpure (.aload_n 2) 762 0 [] ls st h)) ∧
  (∀ (ls : zL) (st : zS) (h : zH), zx 219 762 ls st h = zgo 219 (zpure (.aload_n 0) 763 0 [] ls st h)) ∧
  (∀ (ls : zL) (st : zS) (h : zH), zx 219 763 ls st h = zgo 219 (zpure (.iload 5) 765 0 [] ls st h)) ∧
  (∀ (ls : zL) (st : zS) (h : zH), zx 219 765 ls st h = zgo 219 (zpure (.iconst 1) 766 0 [] ls st h)) ∧
  (∀ (ls : zL) (st : zS) (h : zH), zx 219 766 ls st h = zgo 219 (zpure .iadd 767 0 [] ls st h)) ∧
  (∀ (ls : zL) (st : zS) (h : zH), zx 219 767 ls st h = zgo 219 (zpure .iaload 768 0 [] ls st h)) ∧
  (∀ (ls : zL) (st : zS) (h : zH), zx 219 768 ls st h = zgo 219 (zpure (.aload_n 0) 769 0 [] ls st h)) ∧
  (∀ (ls : zL) (st : zS) (h : zH), zx 219 769 ls st h = zgo 219 (zpure (.iload 5) 771 0 [] ls st h)) ∧
  (∀ (ls : zL) (st : zS) (h : zH), zx 219 771 ls st h = zgo 219 (zpure (.iconst 2) 772 0 [] ls st h)) ∧
  (∀ (ls : zL) (st : zS) (h : zH), zx 219 772 ls st h = zgo 219 (zpure .iadd 773 0 [] ls st h)) ∧
  (∀ (ls : zL) (st : zS) (h : zH), zx 219 773 ls st h = zgo 219 (zpure .iaload 774 0 [] ls st h)) ∧
  (∀ (ls : zL) (st : zS) (h : zH), zx 219 774 ls st h = zca 219 774 777 ls 118 4 7 (ztake 3 st) h) :=
  ⟨zx_0 rfl, zx_2c rfl, zx_0 rfl, zx_0 rfl, zx_0 rfl, zx_0 rfl, zx_0 rfl, zx_0 rfl, zx_0 rfl, zx_0 rfl, zx_0 rfl, zx_0 rfl, zx_0 rfl, zx_0 rfl, zx_2c rfl, zx_0 rfl, zx_0 rfl, zx_2c rfl, zx_0 rfl, zx_0 rfl, zx_0 rfl, zx_1 rfl, zx_0 rfl, zx_0 rfl, zx_0 rfl, zx_0 rfl, zx_0 rfl, zx_0 rfl, zx_0 rfl, zx_0 rfl, zx_0 rfl, zx_0 rfl, zx_1 rfl, zx_0 rfl, zx_0 rfl, zx_0 rfl, zx_0 rfl, zx_0 rfl, zx_0 rfl, zx_0 rfl, zx_0 rfl, zx_0 rfl, zx_0 rfl, zx_0 rfl, zx_0 rfl, zx_0 rfl, zx_2c rfl, zx_0 rfl, zx_0 rfl, zx_0 rfl, zx_0 rfl, zx_0 rfl, zx_0 rfl, zx_0 rfl, zx_0 rfl, zx_0 rfl, zx_0 rfl, zx_0 rfl, zx_0 rfl, zx_2c rfl⟩
set_option maxRecDepth 4000 in
theorem z219_b7 :
  (∀ (ls : zL) (st : zS) (h : zH), zx 219 777 ls st h = zgo 219 (zpure (.istore 7) 779 0 [] ls st h)) ∧
  (∀ (ls : zL) (st : zS) (h : zH), zx 219 779 ls st h = zgo 219 (zpure (.aload_n 2) 780 0 [] ls st h)) ∧
  (∀ (ls : zL) (st : zS) (h : zH), zx 219 780 ls st h = zca 219 780 783 ls 103 1 7 (ztake 1 st) h) ∧
  (∀ (ls : zL) (st : zS) (h : zH), zx 219 783 ls st h = zgo 219 (zpure (.iload 6) 785 0 [] ls st h)) ∧
  (∀ (ls : zL) (st : zS) (h : zH), zx 219 785 ls st h = zgo 219 (zpure (.if_icmp .eq 5) 788 790 [] ls st h)) ∧
  (∀ (ls : zL) (st : zS) (h : zH), zx 219 788 ls st h = zgo 219 (zpure (.iconst 0) 789 0 [] ls st h)) ∧
  (∀ (ls : zL) (st : zS) (h : zH), zx 219 789 ls st h = zret 1 st h) ∧
  (∀ (ls : zL) (st : zS) (h : zH), zx 219 790 ls st h = zgo 219 (zpure (.iload 6) 792 0 [] ls st h)) ∧
  (∀ (ls : zL) (st : zS) (h : zH), zx 219 792 ls st h = zgo 219 (zpure (.ifCond .ne 15) 795 807 [] ls st h)) ∧
  (∀ (ls : zL) (st : zS) (h : zH), zx 219 795 ls st h = zgo 219 (zpure (.aload_n 3) 796 0 [] ls st h)) ∧
  (∀ (ls : zL) (st : zS) (h : zH), zx 219 796 ls st h = zgo 219 (zpure (.iconst 0) 797 0 [] ls st h)) ∧
  (∀ (ls : zL) (st : zS) (h : zH), zx 219 797 ls st h = zgo 219 (zpure .laload 798 0 [] ls st h)) ∧
  (∀ (ls : zL) (st : zS) (h : zH), zx 219 798 ls st h = zgo 219 (zpure (.iload 7) 800 0 [] ls st h)) ∧
  (∀ (ls : zL) (st : zS) (h : zH), zx 219 800 ls st h = zgo 219 (zpure .i2l 801 0 [] ls st h)) ∧
  (∀ (ls : zL) (st : zS) (h : zH), zx 219 801 ls st h = zgo 219 (zpure .lcmp 802 0 [] ls st h)) ∧
  (∀ (ls : zL) (st : zS) (h : zH), zx 219 802 ls st h = zgo 219 (zpure (.ifCond .eq 5) 805 807 [] ls st h)) ∧
  (∀ (ls : zL) (st : zS) (h : zH), zx 219 805 ls st h = zgo 219 (zpure (.iconst 0) 806 0 [] ls st h)) ∧
  (∀ (ls : zL) (st : zS) (h : zH), zx 219 806 ls st h = zret 1 st h) ∧
  (∀ (ls : zL) (st : zS) (h : zH), zx 219 807 ls st h = zgo 219 (zpure (.goto 1461) 810 2268 [] ls st h)) ∧
  (∀ (ls : zL) (st : zS) (h : zH), zx 219 810 ls st h = zgo 219 (zpure (.aload_n 1) 811 0 [] ls st h)) ∧
  (∀ (ls : zL) (st : zS) (h : zH), zx 219 811 ls st h = zgo 219 (zpure (.aload_n 0) 812 0 [] ls st h)) ∧
  (∀ (ls : zL) (st : zS) (h : zH), zx 219 812 ls st h = zgo 219 (zpure (.iload 5) 814 0 [] ls st h)) ∧
  (∀ (ls : zL) (st : zS) (h : zH), zx 219 814 ls st h = zgo 219 (zpure (.iconst 1) 815 0 [] ls st h)) ∧
  (∀ (ls : zL) (st : zS) (h : zH), zx 219 815 ls st h = zgo 219 (zpure .iadd 816 0 [] ls st h)) ∧
  (∀ (ls : zL) (st : zS) (h : zH), zx 219 816 ls st h = zgo 219 (zpure .iaload 817 0 [] ls st h)) ∧
  (∀ (ls : zL) (st : zS) (h : zH), zx 219 817 ls st h = zgo 219 (zpure (.aload_n 0) 818 0 [] ls st h)) ∧
  (∀ (ls : zL) (st : zS) (h : zH), zx 219 818 ls st h = zgo 219 (zpure (.iload 5) 820 0 [] ls st h)) ∧
  (∀ (ls : zL) (st : zS) (h : zH), zx 219 820 ls st h = zgo 219 (zpure (.iconst 2) 821 0 [] ls st h)) ∧
  (∀ (ls : zL) (st : zS) (h : zH), zx 219 821 ls st h = zgo 219 (zpure .iadd 822 0 [] ls st h)) ∧
  (∀ (ls : zL) (st : zS) (h : zH), zx 219 822 ls st h = zgo 219 (zpure .iaload 823 0 [] ls st h)) ∧
  (∀ (ls : zL) (st : zS) (h : zH), zx 219 823 ls st h = zgo 219 (zpure .i2c 824 0 [] ls st h)) ∧
  (∀ (ls : zL) (st : zS) (h : zH), zx 219 824 ls st h = zgo 219 (zpure (.aload_n 0) 825 0 [] ls st h)) ∧
  (∀ (ls : zL) (st : zS) (h : zH), zx 219 825 ls st h = zgo 219 (zpure (.iload 5) 827 0 [] ls st h)) ∧
  (∀ (ls : zL) (st : zS) (h : zH), zx 219 827 ls st h = zgo 219 (zpure (.iconst 3) 828 0 [] ls st h)) ∧
  (∀ (ls : zL) (st : zS) (h : zH), zx 219 828 ls st h = zgo 219 (zpure .iadd 829 0 [] ls st h)) ∧
  (∀ (ls : zL) (st : zS) (h : zH), zx 219 829 ls st h = zgo 219 (zpure .iaload 830 0 [] ls st h)) ∧
  (∀ (ls : zL) (st : zS) (h : zH), zx 219 830 ls st h = zgo 219 (zpure (.aload_n 0) 831 0 [] ls st h)) ∧
  (∀ (ls : zL) (st : zS) (h : zH), zx 219 831 ls st h = zgo 219 (zpure (.iload 5) 833 0 [] ls st h)) ∧
  (∀ (ls : zL) (st : zS) (h : zH), zx 219 833 ls st h = zgo 219 (zpure (.iconst 4) 834 0 [] ls st h)) ∧
  (∀ (ls : zL) (st : zS) (h : zH), zx 219 834 ls st h = zgo 219 (zpure .iadd 835 0 [] ls st h)) ∧
  (∀ (ls : zL) (st : zS) (h : zH), zx 219 835 ls st h = zgo 219 (zpure .iaload 836 0 [] ls st h)) ∧
  (∀ (ls : zL) (st : zS) (h : zH), zx 219 836 ls st h = zgo 219 (zpure (.aload_n 3) 837 0 [] ls st h)) ∧
  (∀ (ls : zL) (st : zS) (h : zH), zx 219 837 ls st h = zca 219 837 840 ls 196 7 0 (ztake 6 st) h) ∧
  (∀ (ls : zL) (st : zS) (h : zH), zx 219 840 ls st h = zgo 219 (zpure (.istore 6) 842 0 [] ls st h)) ∧
  (∀ (ls : zL) (st : zS) (h : zH), zx 219 842 ls st h = zgo 219 (zpure (.aload_n 2) 843 0 [] ls st h)) ∧
  (∀ (ls : zL) (st : zS) (h : zH), zx 219 843 ls st h = zgo 219 (zpure (.aload_n 0) 844 0 [] ls st h)) ∧
  (∀ (ls : zL) (st : zS) (h : zH), zx 219 844 ls st h = zgo 219 (zpure (.iload 5) 846 0 [] ls st h)) ∧
  (∀ (ls : zL) (st : zS) (h : zH), zx 219 846 ls st h = zgo 219 (zpure (.iconst 1) 847 0 [] ls st h)) ∧
  (∀ (ls : zL) (st : zS) (h : zH), zx 219 847 ls st h = zgo 219 (zpure .iadd 848 0 [] ls st h)) ∧
  (∀ (ls : zL) (st : zS) (h : zH), zx 219 848 ls st h = zgo 219 (zpure .iaload 849 0 [] ls st h)) ∧
  (∀ (ls : zL) (st : zS) (h : zH), zx 219 849 ls st h = zgo 219 (zpure (.aload_n 0) 850 0 [] ls st h)) ∧
  (∀ (ls : zL) (st : zS) (h : zH), zx 219 850 ls st h = zgo 219 (zpure (.iload 5) 852 0 [] ls st h)) ∧
  (∀ (ls : zL) (st : zS) (h : zH), zx 219 852 ls st h = zgo 219 (zpure (.iconst 2) 853 0 [] ls st h)) ∧
  (∀ (ls : zL) (st : zS) (h : zH), zx 219 853 ls st h = zgo 219 (zpure .iadd 854 0 [] ls st h)) ∧
  (∀ (ls : zL) (st : zS) (h : zH), zx 219 854 ls st h = zgo 219 (zpure .iaload 855 0 [] ls st h)) ∧
  (∀ (ls : zL) (st : zS) (h : zH), zx 219 855 ls st h = zgo 219 (zpure .i2c 856 0 [] ls st h)) ∧
  (∀ (ls : zL) (st : zS) (h : zH), zx 219 856 ls st h = zgo 219 (zpure (.aload_n 0) 857 0 [] ls st h)) ∧
  (∀ (ls : zL) (st : zS) (h : zH), zx 219 857 ls st h = zgo 219 (zpure (.iload 5) 859 0 [] ls st h)) ∧
  (∀ (ls : zL) (st : zS) (h : zH), zx 219 859 ls st h = zgo 219 (zpure (.iconst 3) 860 0 [] ls st h)) ∧
  (∀ (ls : zL) (st : zS) (h : zH), zx 219 860 ls st h = zgo 219 (zpure .iadd 861 0 [] ls st h)) :=
  ⟨zx_0 rfl, zx_0 rfl, zx_2c rfl, zx_0 rfl, zx_0 rfl, zx_0 rfl, zx_1 rfl, zx_0 rfl, zx_0 rfl, zx_0 rfl, zx_0 rfl, zx_0 rfl, zx_0 rfl, zx_0 rfl, zx_0 rfl, zx_0 rfl, zx_0 rfl, zx_1 rfl, zx_0 rfl, zx_0 rfl, zx_0 rfl, zx_0 rfl, zx_0 rfl, zx_0 rfl, zx_0 rfl, zx_0 rfl, zx_0 rfl, zx_0 rfl, zx_0 rfl, zx_0 rfl, zx_0 rfl, zx_0 rfl, zx_0 rfl, zx_0 rfl, zx_0 rfl, zx_0 rfl, zx_0 rfl, zx_0 rfl, zx_0 rfl, zx_0 rfl, zx_0 rfl, zx_0 rfl, zx_2c rfl, zx_0 rfl, zx_0 rfl, zx_0 rfl, zx_0 rfl, zx_0 rfl, zx_0 rfl, zx_0 rfl, zx_0 rfl, zx_0 rfl, zx_0 rfl, zx_0 rfl, zx_0 rfl, zx_0 rfl, zx_0 rfl, zx_0 rfl, zx_0 rfl, zx_0 rfl⟩
set_option maxRecDepth 4000 in
theorem z219_b8 :
  (∀ (ls : zL) (st : zS) (h : zH), zx 219 861 ls st h = zgo 219 (zpure .iaload 862 0 [] ls st h)) ∧
  (∀ (ls : zL) (st : zS) (h : zH), zx 219 862 ls st h = zgo 219 (zpure (.aload_n 0) 863 0 [] ls st h)) ∧
  (∀ (ls : zL) (st : zS) (h : zH), zx 219 863 ls st h = zgo 219 (zpure (.iload 5) 865 0 [] ls st h)) ∧
  (∀ (ls : zL) (st : zS) (h : zH), zx 219 865 ls st h = zgo 219 (zpure (.iconst 4) 866 0 [] ls st h)) ∧
  (∀ (ls : zL) (st : zS) (h : zH), zx 219 866 ls st h = zgo 219 (zpure .iadd 867 0 [] ls st h)) ∧
  (∀ (ls : zL) (st : zS) (h : zH), zx 219 867 ls st h = zgo 219 (zpure .iaload 868 0 [] ls st h)) ∧
  (∀ (ls : zL) (st : zS) (h : zH), zx 219 868 ls st h = zca 219 868 871 ls 119 7 7 (ztake 5 st) h) ∧
  (∀ (ls : zL) (st : zS) (h : zH), zx 219 871 ls st h = zgo 219 (zpure (.istore 7) 873 0 [] ls st h)) ∧
  (∀ (ls : zL) (st : zS) (h : zH), zx 219 873 ls st h = zgo 219 (zpure (.aload_n 2) 874 0 [] ls st h)) ∧
  (∀ (ls : zL) (st : zS) (h : zH), zx 219 874 ls st h = zca 219 874 877 ls 103 1 7 (ztake 1 st) h) ∧
  (∀ (ls : zL) (st : zS) (h : zH), zx 219 877 ls st h = zgo 219 (zpure (.iload 6) 879 0 [] ls st h)) ∧
  (∀ (ls : zL) (st : zS) (h : zH), zx 219 879 ls st h = zgo 219 (zpure (.if_icmp .eq 5) 882 884 [] ls st h)) ∧
  (∀ (ls : zL) (st : zS) (h : zH), zx 219 882 ls st h = zgo 219 (zpure (.iconst 0) 883 0 [] ls st h)) ∧
  (∀ (ls : zL) (st : zS) (h : zH), zx 219 883 ls st h = zret 1 st h) ∧
  (∀ (ls : zL) (st : zS) (h : zH), zx 219 884 ls st h = zgo 219 (zpure (.iload 6) 886 0 [] ls st h)) ∧
  (∀ (ls : zL) (st : zS) (h : zH), zx 219 886 ls st h = zgo 219 (zpure (.ifCond .ne 15) 889 901 [] ls st h)) ∧
  (∀ (ls : zL) (st : zS) (h : zH), zx 219 889 ls st h = zgo 219 (zpure (.aload_n 3) 890 0 [] ls st h)) ∧
  (∀ (ls : zL) (st : zS) (h : zH), zx 219 890 ls st h = zgo 219 (zpure (.iconst 0) 891 0 [] ls st h)) ∧
  (∀ (ls : zL) (st : zS) (h : zH), zx 219 891 ls st h = zgo 219 (zpure .laload 892 0 [] ls st h)) ∧
  (∀ (ls : zL) (st : zS) (h : zH), zx 219 892 ls st h = zgo 219 (zpure (.iload 7) 894 0 [] ls st h)) ∧
  (∀ (ls : zL) (st : zS) (h : zH), zx 219 894 ls st h = zgo 219 (zpure .i2l 895 0 [] ls st h)) ∧
  (∀ (ls : zL) (st : zS) (h : zH), zx 219 895 ls st h = zgo 219 (zpure .lcmp 896 0 [] ls st h)) ∧
  (∀ (ls : zL) (st : zS) (h : zH), zx 219 896 ls st h = zgo 219 (zpure (.ifCond .eq 5) 899 901 [] ls st h)) ∧
  (∀ (ls : zL) (st : zS) (h : zH), zx 219 899 ls st h = zgo 219 (zpure (.iconst 0) 900 0 [] ls st h)) ∧
  (∀ (ls : zL) (st : zS) (h : zH), zx 219 900 ls st h = zret 1 st h) ∧
  (∀ (ls : zL) (st : zS) (h : zH), zx 219 901 ls st h = zgo 219 (zpure (.goto 1367) 904 2268 [] ls st h)) ∧
  (∀ (ls : zL) (st : zS) (h : zH), zx 219 904 ls st h = zgo 219 (zpure (.aload_n 1) 905 0 [] ls st h)) ∧
  (∀ (ls : zL) (st : zS) (h : zH), zx 219 905 ls st h = zca 219 905 908 ls 51 1 6 (ztake 1 st) h) ∧
  (∀ (ls : zL) (st : zS) (h : zH), zx 219 908 ls st h = zgo 219 (zpure (.aload_n 2) 909 0 [] ls st h)) ∧
  (∀ (ls : zL) (st : zS) (h : zH), zx 219 909 ls st h = zca 219 909 912 ls 120 1 7 (ztake 1 st) h) ∧
  (∀ (ls : zL) (st : zS) (h : zH), zx 219 912 ls st h = zgo 219 (zpure (.if_icmp .eq 1356) 915 2268 [] ls st h)) ∧
  (∀ (ls : zL) (st : zS) (h : zH), zx 219 915 ls st h = zgo 219 (zpure (.iconst 0) 916 0 [] ls st h)) ∧
  (∀ (ls : zL) (st : zS) (h : zH), zx 219 916 ls st h = zret 1 st h) ∧
  (∀ (ls : zL) (st : zS) (h : zH), zx 219 917 ls st h = zgo 219 (zpure (.aload_n 1) 918 0 [] ls st h)) ∧
  (∀ (ls : zL) (st : zS) (h : zH), zx 219 918 ls st h = zgo 219 (zpure (.aload_n 0) 919 0 [] ls st h)) ∧
  (∀ (ls : zL) (st : zS) (h : zH), zx 219 919 ls st h = zgo 219 (zpure (.iload 5) 921 0 [] ls st h)) ∧
  (∀ (ls : zL) (st : zS) (h : zH), zx 219 921 ls st h = zgo 219 (zpure (.iconst 1) 922 0 [] ls st h)) ∧
  (∀ (ls : zL) (st : zS) (h : zH), zx 219 922 ls st h = zgo 219 (zpure .iadd 923 0 [] ls st h)) ∧
  (∀ (ls : zL) (st : zS) (h : zH), zx 219 923 ls st h = zgo 219 (zpure .iaload 924 0 [] ls st h)) ∧
  (∀ (ls : zL) (st : zS) (h : zH), zx 219 924 ls st h = zgo 219 (zpure (.aload_n 3) 925 0 [] ls st h)) ∧
  (∀ (ls : zL) (st : zS) (h : zH), zx 219 925 ls st h = zca 219 925 928 ls 197 4 0 (ztake 3 st) h) ∧
  (∀ (ls : zL) (st : zS) (h : zH), zx 219 928 ls st h = zgo 219 (zpure (.istore 6) 930 0 [] ls st h)) ∧
  (∀ (ls : zL) (st : zS) (h : zH), zx 219 930 ls st h = zgo 219 (zpure (.aload_n 2) 931 0 [] ls st h)) ∧
  (∀ (ls : zL) (st : zS) (h : zH), zx 219 931 ls st h = zgo 219 (zpure (.aload_n 0) 932 0 [] ls st h)) ∧
  (∀ (ls : zL) (st : zS) (h : zH), zx 219 932 ls st h = zgo 219 (zpure (.iload 5) 934 0 [] ls st h)) ∧
  (∀ (ls : zL) (st : zS) (h : zH), zx 219 934 ls st h = zgo 219 (zpure (.iconst 1) 935 0 [] ls st h)) ∧
  (∀ (ls : zL) (st : zS) (h : zH), zx 219 935 ls st h = zgo 219 (zpure .iadd 936 0 [] ls st h)) ∧
  (∀ (ls : zL) (st : zS) (h : zH), zx 219 936 ls st h = zgo 219 (zpure .iaload 937 0 [] ls st h)) ∧
  (∀ (ls : zL) (st : zS) (h : zH), zx 219 937 ls st h = zca 219 937 940 ls 121 2 7 (ztake 2 st) h) ∧
  (∀ (ls : zL) (st : zS) (h : zH), zx 219 940 ls st h = zgo 219 (zpure (.istore 7) 942 0 [] ls st h)) ∧
  (∀ (ls : zL) (st : zS) (h : zH), zx 219 942 ls st h = zgo 219 (zpure (.aload_n 2) 943 0 [] ls st h)) ∧
  (∀ (ls : zL) (st : zS) (h : zH), zx 219 943 ls st h = zca 219 943 946 ls 103 1 7 (ztake 1 st) h) ∧
  (∀ (ls : zL) (st : zS) (h : zH), zx 219 946 ls st h = zgo 219 (zpure (.iload 6) 948 0 [] ls st h)) ∧
  (∀ (ls : zL) (st : zS) (h : zH), zx 219 948 ls st h = zgo 219 (zpure (.if_icmp .eq 5) 951 953 [] ls st h)) ∧
  (∀ (ls : zL) (st : zS) (h : zH), zx 219 951 ls st h = zgo 219 (zpure (.iconst 0) 952 0 [] ls st h)) ∧
  (∀ (ls : zL) (st : zS) (h : zH), zx 219 952 ls st h = zret 1 st h) ∧
  (∀ (ls : zL) (st : zS) (h : zH), zx 219 953 ls st h = zgo 219 (zpure (.iload 6) 955 0 [] ls st h)) ∧
  (∀ (ls : zL) (st : zS) (h : zH), zx 219 955 ls st h = zgo 219 (zpure (.ifCond .ne 15) 958 970 [] ls st h)) ∧
  (∀ (ls : zL) (st : zS) (h : zH), zx 219 958 ls st h = zgo 219 (zpure (.aload_n 3) 959 0 [] ls st h)) ∧
  (∀ (ls : zL) (st : zS) (h : zH), zx 219 959 ls st h = zgo 219 (zpure (.iconst 0) 960 0 [] ls st h)) :=
  ⟨zx_0 rfl, zx_0 rfl, zx_0 rfl, zx_0 rfl, zx_0 rfl, zx_0 rfl, zx_2c rfl, zx_0 rfl, zx_0 rfl, zx_2c rfl, zx_0 rfl, zx_0 rfl, zx_0 rfl, zx_1 rfl, zx_0 rfl, zx_0 rfl, zx_0 rfl, zx_0 rfl, zx_0 rfl, zx_0 rfl, zx_0 rfl, zx_0 rfl, zx_0 rfl, zx_0 rfl, zx_1 rfl, zx_0 rfl, zx_0 rfl, zx_2c rfl, zx_0 rfl, zx_2c rfl, zx_0 rfl, zx_0 rfl, zx_1 rfl, zx_0 rfl, zx_0 rfl, zx_0 rfl, zx_0 rfl, zx_0 rfl, zx_0 rfl, zx_0 rfl, zx_2c rfl, zx_0 rfl, zx_0 rfl, zx_0 rfl, zx_0 rfl, zx_0 rfl, zx_0 rfl, zx_0 rfl, zx_2c rfl, zx_0 rfl, zx_0 rfl, zx_2c rfl, zx_0 rfl, zx_0 rfl, zx_0 rfl, zx_1 rfl, zx_0 rfl, zx_0 rfl, zx_0 rfl, zx_0 rfl⟩
set_option maxRecDepth 4000 in
theorem z219_b9 :
  (∀ (ls : zL) (st : zS) (h : zH), zx 219 960 ls st h = zgo 219 (zpure .laload 961 0 [] ls st h)) ∧
  (∀ (ls : zL) (st : zS) (h : zH), zx 219 961 ls st h = zgo 219 (zpure (.iload 7) 963 0 [] ls st h)) ∧
  (∀ (ls : zL) (st : zS) (h : zH), zx 219 963 ls st h = zgo 219 (zpure .i2l 964 0 [] ls st h)) ∧
  (∀ (ls : zL) (st : zS) (h : zH), zx 219 964 ls st h = zgo 219 (zpure .lcmp 965 0 [] ls st h)) ∧
  (∀ (ls : zL) (st : zS) (h : zH), zx 219 965 ls st h = zgo 219 (zpure (.ifCond .eq 5) 968 970 [] ls st h)) ∧
  (∀ (ls : zL) (st : zS) (h : zH), zx 219 968 ls st h = zgo 219 (zpure (.iconst 0) 969 0 [] ls st h)) ∧
  (∀ (ls : zL) (st : zS) (h : zH), zx 219 969 ls st h = zret 1 st h) ∧
  (∀ (ls : zL) (st : zS) (h : zH), zx 219 970 ls st h = zgo 219 (zpure (.goto 1298) 973 2268 [] ls st h)) ∧
  (∀ (ls : zL) (st : zS) (h : zH), zx 219 973 ls st h = zgo 219 (zpure (.aload_n 1) 974 0 [] ls st h)) ∧
  (∀ (ls : zL) (st : zS) (h : zH), zx 219 974 ls st h = zgo 219 (zpure (.aload_n 0) 975 0 [] ls st h)) ∧
  (∀ (ls : zL) (st : zS) (h : zH), zx 219 975 ls st h = zgo 219 (zpure (.iload 5) 977 0 [] ls st h)) ∧
  (∀ (ls : zL) (st : zS) (h : zH), zx 219 977 ls st h = zgo 219 (zpure (.iconst 1) 978 0 [] ls st h)) ∧
  (∀ (ls : zL) (st : zS) (h : zH), zx 219 978 ls st h = zgo 219 (zpure .iadd 979 0 [] ls st h)) ∧
  (∀ (ls : zL) (st : zS) (h : zH), zx 219 979 ls st h = zgo 219 (zpure .iaload 980 0 [] ls st h)) ∧
  (∀ (ls : zL) (st : zS) (h : zH), zx 219 980 ls st h = zgo 219 (zpure (.aload_n 3) 981 0 [] ls st h)) ∧
  (∀ (ls : zL) (st : zS) (h : zH), zx 219 981 ls st h = zca 219 981 984 ls 198 4 0 (ztake 3 st) h) ∧
  (∀ (ls : zL) (st : zS) (h : zH), zx 219 984 ls st h = zgo 219 (zpure (.istore 6) 986 0 [] ls st h)) ∧
  (∀ (ls : zL) (st : zS) (h : zH), zx 219 986 ls st h = zgo 219 (zpure (.aload_n 2) 987 0 [] ls st h)) ∧
  (∀ (ls : zL) (st : zS) (h : zH), zx 219 987 ls st h = zgo 219 (zpure (.aload_n 0) 988 0 [] ls st h)) ∧
  (∀ (ls : zL) (st : zS) (h : zH), zx 219 988 ls st h = zgo 219 (zpure (.iload 5) 990 0 [] ls st h)) ∧
  (∀ (ls : zL) (st : zS) (h : zH), zx 219 990 ls st h = zgo 219 (zpure (.iconst 1) 991 0 [] ls st h)) ∧
  (∀ (ls : zL) (st : zS) (h : zH), zx 219 991 ls st h = zgo 219 (zpure .iadd 992 0 [] ls st h)) ∧
  (∀ (ls : zL) (st : zS) (h : zH), zx 219 992 ls st h = zgo 219 (zpure .iaload 993 0 [] ls st h)) ∧
  (∀ (ls : zL) (st : zS) (h : zH), zx 219 993 ls st h = zca 219 993 996 ls 139 2 7 (ztake 2 st) h) ∧
  (∀ (ls : zL) (st : zS) (h : zH), zx 219 996 ls st h = zgo 219 (zpure (.istore 7) 998 0 [] ls st h)) ∧
  (∀ (ls : zL) (st : zS) (h : zH), zx 219 998 ls st h = zgo 219 (zpure (.aload_n 2) 999 0 [] ls st h)) ∧
  (∀ (ls : zL) (st : zS) (h : zH), zx 219 999 ls st h = zca 219 999 1002 ls 103 1 7 (ztake 1 st) h) ∧
  (∀ (ls : zL) (st : zS) (h : zH), zx 219 1002 ls st h = zgo 219 (zpure (.iload 6) 1004 0 [] ls st h)) ∧
  (∀ (ls : zL) (st : zS) (h : zH), zx 219 1004 ls st h = zgo 219 (zpure (.if_icmp .eq 5) 1007 1009 [] ls st h)) ∧
  (∀ (ls : zL) (st : zS) (h : zH), zx 219 1007 ls st h = zgo 219 (zpure (.iconst 0) 1008 0 [] ls st h)) ∧
  (∀ (ls : zL) (st : zS) (h : zH), zx 219 1008 ls st h = zret 1 st h) ∧
  (∀ (ls : zL) (st : zS) (h : zH), zx 219 1009 ls st h = zgo 219 (zpure (.iload 6) 1011 0 [] ls st h)) ∧
  (∀ (ls : zL) (st : zS) (h : zH), zx 219 1011 ls st h = zgo 219 (zpure (.ifCond .ne 15) 1014 1026 [] ls st h)) ∧
  (∀ (ls : zL) (st : zS) (h : zH), zx 219 1014 ls st h = zgo 219 (zpure (.aload_n 3) 1015 0 [] ls st h)) ∧
  (∀ (ls : zL) (st : zS) (h : zH), zx 219 1015 ls st h = zgo 219 (zpure (.iconst 0) 1016 0 [] ls st h)) ∧
  (∀ (ls : zL) (st : zS) (h : zH), zx 219 1016 ls st h = zgo 219 (zpure .laload 1017 0 [] ls st h)) ∧
  (∀ (ls : zL) (st : zS) (h : zH), zx 219 1017 ls st h = zgo 219 (zpure (.iload 7) 1019 0 [] ls st h)) ∧
  (∀ (ls : zL) (st : zS) (h : zH), zx 219 1019 ls st h = zgo 219 (zpure .i2l 1020 0 [] ls st h)) ∧
  (∀ (ls : zL) (st : zS) (h : zH), zx 219 1020 ls st h = zgo 219 (zpure .lcmp 1021 0 [] ls st h)) ∧
  (∀ (ls : zL) (st : zS) (h : zH), zx 219 1021 ls st h = zgo 219 (zpure (.ifCond .eq 5) 1024 1026 [] ls st h)) ∧
  (∀ (ls : zL) (st : zS) (h : zH), zx 219 1024 ls st h = zgo 219 (zpure (.iconst 0) 1025 0 [] ls st h)) ∧
  (∀ (ls : zL) (st : zS) (h : zH), zx 219 1025 ls st h = zret 1 st h) ∧
  (∀ (ls : zL) (st : zS) (h : zH), zx 219 1026 ls st h = zgo 219 (zpure (.goto 1242) 1029 2268 [] ls st h)) ∧
  (∀ (ls : zL) (st : zS) (h : zH), zx 219 1029 ls st h = zgo 219 (zpure (.aload_n 1) 1030 0 [] ls st h)) ∧
  (∀ (ls : zL) (st : zS) (h : zH), zx 219 1030 ls st h = zgo 219 (zpure (.aload_n 0) 1031 0 [] ls st h)) ∧
  (∀ (ls : zL) (st : zS) (h : zH), zx 219 1031 ls st h = zgo 219 (zpure (.iload 5) 1033 0 [] ls st h)) ∧
  (∀ (ls : zL) (st : zS) (h : zH), zx 219 1033 ls st h = zgo 219 (zpure (.iconst 1) 1034 0 [] ls st h)) ∧
  (∀ (ls : zL) (st : zS) (h : zH), zx 219 1034 ls st h = zgo 219 (zpure .iadd 1035 0 [] ls st h)) ∧
  (∀ (ls : zL) (st : zS) (h : zH), zx 219 1035 ls st h = zgo 219 (zpure .iaload 1036 0 [] ls st h)) ∧
  (∀ (ls : zL) (st : zS) (h : zH), zx 219 1036 ls st h = zgo 219 (zpure (.aload_n 3) 1037 0 [] ls st h)) ∧
  (∀ (ls : zL) (st : zS) (h : zH), zx 219 1037 ls st h = zca 219 1037 1040 ls 199 4 0 (ztake 3 st) h) ∧
  (∀ (ls : zL) (st : zS) (h : zH), zx 219 1040 ls st h = zgo 219 (zpure (.istore 6) 1042 0 [] ls st h)) ∧
  (∀ (ls : zL) (st : zS) (h : zH), zx 219 1042 ls st h = zgo 219 (zpure (.aload_n 2) 1043 0 [] ls st h)) ∧
  (∀ (ls : zL) (st : zS) (h : zH), zx 219 1043 ls st h = zgo 219 (zpure (.aload_n 0) 1044 0 [] ls st h)) ∧
  (∀ (ls : zL) (st : zS) (h : zH), zx 219 1044 ls st h = zgo 219 (zpure (.iload 5) 1046 0 [] ls st h)) ∧
  (∀ (ls : zL) (st : zS) (h : zH), zx 219 1046 ls st h = zgo 219 (zpure (.iconst 1) 1047 0 [] ls st h)) ∧
  (∀ (ls : zL) (st : zS) (h : zH), zx 219 1047 ls st h = zgo 219 (zpure .iadd 1048 0 [] ls st h)) ∧
  (∀ (ls : zL) (st : zS) (h : zH), zx 219 1048 ls st h = zgo 219 (zpure .iaload 1049 0 [] ls st h)) ∧
  (∀ (ls : zL) (st : zS) (h : zH), zx 219 1049 ls st h = zca 219 1049 1052 ls 141 2 7 (ztake 2 st) h) ∧
  (∀ (ls : zL) (st : zS) (h : zH), zx 219 1052 ls st h = zgo 219 (zpure (.istore 7) 1054 0 [] ls st h)) :=
  ⟨zx_0 rfl, zx_0 rfl, zx_0 rfl, zx_0 rfl, zx_0 rfl, zx_0 rfl, zx_1 rfl, zx_0 rfl, zx_0 rfl, zx_0 rfl, zx_0 rfl, zx_0 rfl, zx_0 rfl, zx_0 rfl, zx_0 rfl, zx_2c rfl, zx_0 rfl, zx_0 rfl, zx_0 rfl, zx_0 rfl, zx_0 rfl, zx_0 rfl, zx_0 rfl, zx_2c rfl, zx_0 rfl, zx_0 rfl, zx_2c rfl, zx_0 rfl, zx_0 rfl, zx_0 rfl, zx_1 rfl, zx_0 rfl, zx_0 rfl, zx_0 rfl, zx_0 rfl, zx_0 rfl, zx_0 rfl, zx_0 rfl, zx_0 rfl, zx_0 rfl, zx_0 rfl, zx_1 rfl, zx_0 rfl, zx_0 rfl, zx_0 rfl, zx_0 rfl, zx_0 rfl, zx_0 rfl, zx_0 rfl, zx_0 rfl, zx_2c rfl, zx_0 rfl, zx_0 rfl, zx_0 rfl, zx_0 rfl, zx_0 rfl, zx_0 rfl, zx_0 rfl, zx_2c rfl, zx_0 rfl⟩
set_option maxRecDepth 4000 in
theorem z219_b10 :
  (∀ (ls : zL) (st : zS) (h : zH), zx 219 1054 ls st h = zgo 219 (zpure (.aload_n 2) 1055 0 [] ls st h)) ∧
  (∀ (ls : zL) (st : zS) (h : zH), zx 219 1055 ls st h = zca 219 1055 1058 ls 103 1 7 (ztake 1 st) h) ∧
  (∀ (ls : zL) (st : zS) (h : zH), zx 219 1058 ls st h = zgo 219 (zpure (.iload 6) 1060 0 [] ls st h)) ∧
  (∀ (ls : zL) (st : zS) (h : zH), zx 219 1060 ls st h = zgo 219 (zpure (.if_icmp .eq 5) 1063 1065 [] ls st h)) ∧
  (∀ (ls : zL) (st : zS) (h : zH), zx 219 1063 ls st h = zgo 219 (zpure (.iconst 0) 1064 0 [] ls st h)) ∧
  (∀ (ls : zL) (st : zS) (h : zH), zx 219 1064 ls st h = zret 1 st h) ∧
  (∀ (ls : zL) (st : zS) (h : zH), zx 219 1065 ls st h = zgo 219 (zpure (.iload 6) 1067 0 [] ls st h)) ∧
  (∀ (ls : zL) (st : zS) (h : zH), zx 219 1067 ls st h = zgo 219 (zpure (.ifCond .ne 15) 1070 1082 [] ls st h)) ∧
  (∀ (ls : zL) (st : zS) (h : zH), zx 219 1070 ls st h = zgo 219 (zpure (.aload_n 3) 1071 0 [] ls st h)) ∧
  (∀ (ls : zL) (st : zS) (h : zH), zx 219 1071 ls st h = zgo 219 (zpure (.iconst 0) 1072 0 [] ls st h)) ∧
  (∀ (ls : zL) (st : zS) (h : zH), zx 219 1072 ls st h = zgo 219 (zpure .laload 1073 0 [] ls st h)) ∧
  (∀ (ls : zL) (st : zS) (h : zH), zx 219 1073 ls st h = zgo 219 (zpure (.iload 7) 1075 0 [] ls st h)) ∧
  (∀ (ls : zL) (st : zS) (h : zH), zx 219 1075 ls st h = zgo 219 (zpure .i2l 1076 0 [] ls st h)) ∧
  (∀ (ls : zL) (st : zS) (h : zH), zx 219 1076 ls st h = zgo 219 (zpure .lcmp 1077 0 [] ls st h)) ∧
  (∀ (ls : zL) (st : zS) (h : zH), zx 219 1077 ls st h = zgo 219 (zpure (.ifCond .eq 5) 1080 1082 [] ls st h)) ∧
  (∀ (ls : zL) (st : zS) (h : zH), zx 219 1080 ls st h = zgo 219 (zpure (.iconst 0) 1081 0 [] ls st h)) ∧
  (∀ (ls : zL) (st : zS) (h : zH), zx 219 1081 ls st h = zret 1 st h) ∧
  (∀ (ls : zL) (st : zS) (h : zH), zx 219 1082 ls st h = zgo 219 (zpure (.goto 1186) 1085 2268 [] ls st h)) ∧
  (∀ (ls : zL) (st : zS) (h : zH), zx 219 1085 ls st h = zgo 219 (zpure (.aload_n 1) 1086 0 [] ls st h)) ∧
  (∀ (ls : zL) (st : zS) (h : zH), zx 219 1086 ls st h = zgo 219 (zpure (.aload_n 0) 1087 0 [] ls st h)) ∧
  (∀ (ls : zL) (st : zS) (h : zH), zx 219 1087 ls st h = zgo 219 (zpure (.iload 5) 1089 0 [] ls st h)) ∧
  (∀ (ls : zL) (st : zS) (h : zH), zx 219 1089 ls st h = zgo 219 (zpure (.iconst 1) 1090 0 [] ls st h)) ∧
  (∀ (ls : zL) (st : zS) (h : zH), zx 219 1090 ls st h = zgo 219 (zpure .iadd 1091 0 [] ls st h)) ∧
  (∀ (ls : zL) (st : zS) (h : zH), zx 219 1091 ls st h = zgo 219 (zpure .iaload 1092 0 [] ls st h)) ∧
  (∀ (ls : zL) (st : zS) (h : zH), zx 219 1092 ls st h = zgo 219 (zpure (.aload_n 3) 1093 0 [] ls st h)) ∧
  (∀ (ls : zL) (st : zS) (h : zH), zx 219 1093 ls st h = zca 219 1093 1096 ls 200 4 0 (ztake 3 st) h) ∧
  (∀ (ls : zL) (st : zS) (h : zH), zx 219 1096 ls st h = zgo 219 (zpure (.istore 6) 1098 0 [] ls st h)) ∧
  (∀ (ls : zL) (st : zS) (h : zH), zx 219 1098 ls st h = zgo 219 (zpure (.aload_n 2) 1099 0 [] ls st h)) ∧
  (∀ (ls : zL) (st : zS) (h : zH), zx 219 1099 ls st h = zgo 219 (zpure (.aload_n 0) 1100 0 [] ls st h)) ∧
  (∀ (ls : zL) (st : zS) (h : zH), zx 219 1100 ls st h = zgo 219 (zpure (.iload 5) 1102 0 [] ls st h)) ∧
  (∀ (ls : zL) (st : zS) (h : zH), zx 219 1102 ls st h = zgo 219 (zpure (.iconst 1) 1103 0 [] ls st h)) ∧
  (∀ (ls : zL) (st : zS) (h : zH), zx 219 1103 ls st h = zgo 219 (zpure .iadd 1104 0 [] ls st h)) ∧
  (∀ (ls : zL) (st : zS) (h : zH), zx 219 1104 ls st h = zgo 219 (zpure .iaload 1105 0 [] ls st h)) ∧
  (∀ (ls : zL) (st : zS) (h : zH), zx 219 1105 ls st h = zca 219 1105 1108 ls 142 2 7 (ztake 2 st) h) ∧
  (∀ (ls : zL) (st : zS) (h : zH), zx 219 1108 ls st h = zgo 219 (zpure (.istore 7) 1110 0 [] ls st h)) ∧
  (∀ (ls : zL) (st : zS) (h : zH), zx 219 1110 ls st h = zgo 219 (zpure (.aload_n 2) 1111 0 [] ls st h)) ∧
  (∀ (ls : zL) (st : zS) (h : zH), zx 219 1111 ls st h = zca 219 1111 1114 ls 103 1 7 (ztake 1 st) h) ∧
  (∀ (ls : zL) (st : zS) (h : zH), zx 219 1114 ls st h = zgo 219 (zpure (.iload 6) 1116 0 [] ls st h)) ∧
  (∀ (ls : zL) (st : zS) (h : zH), zx 219 1116 ls st h = zgo 219 (zpure (.if_icmp .eq 5) 1119 1121 [] ls st h)) ∧
  (∀ (ls : zL) (st : zS) (h : zH), zx 219 1119 ls st h = zgo 219 (zpure (.iconst 0) 1120 0 [] ls st h)) ∧
  (∀ (ls : zL) (st : zS) (h : zH), zx 219 1120 ls st h = zret 1 st h) ∧
  (∀ (ls : zL) (st : zS) (h : zH), zx 219 1121 ls st h = zgo 219 (zpure (.iload 6) 1123 0 [] ls st h)) ∧
  (∀ (ls : zL) (st : zS) (h : zH), zx 219 1123 ls st h = zgo 219 (zpure (.ifCond .ne 15) 1126 1138 [] ls st h)) ∧
  (∀ (ls : zL) (st : zS) (h : zH), zx 219 1126 ls st h = zgo 219 (zpure (.aload_n 3) 1127 0 [] ls st h)) ∧
  (∀ (ls : zL) (st : zS) (h : zH), zx 219 1127 ls st h = zgo 219 (zpure (.iconst 0) 1128 0 [] ls st h)) ∧
  (∀ (ls : zL) (st : zS) (h : zH), zx 219 1128 ls st h = zgo 219 (zpure .laload 1129 0 [] ls st h)) ∧
  (∀ (ls : zL) (st : zS) (h : zH), zx 219 1129 ls st h = zgo 219 (zpure (.iload 7) 1131 0 [] ls st h)) ∧
  (∀ (ls : zL) (st : zS) (h : zH), zx 219 1131 ls st h = zgo 219 (zpure .i2l 1132 0 [] ls st h)) ∧
  (∀ (ls : zL) (st : zS) (h : zH), zx 219 1132 ls st h = zgo 219 (zpure .lcmp 1133 0 [] ls st h)) ∧
  (∀ (ls : zL) (st : zS) (h : zH), zx 219 1133 ls st h = zgo 219 (zpure (.ifCond .eq 5) 1136 1138 [] ls st h)) ∧
  (∀ (ls : zL) (st : zS) (h : zH), zx 219 1136 ls st h = zgo 219 (zpure (.iconst 0) 1137 0 [] ls st h)) ∧
  (∀ (ls : zL) (st : zS) (h : zH), zx 219 1137 ls st h = zret 1 st h) ∧
  (∀ (ls : zL) (st : zS) (h : zH), zx 219 1138 ls st h = zgo 219 (zpure (.goto 1130) 1141 2268 [] ls st h)) ∧
  (∀ (ls : zL) (st : zS) (h : zH), zx 219 1141 ls st h = zgo 219 (zpure (.aload_n 1) 1142 0 [] ls st h)) ∧
  (∀ (ls : zL) (st : zS) (h : zH), zx 219 1142 ls st h = zca 219 1142 1145 ls 56 1 6 (ztake 1 st) h) ∧
  (∀ (ls : zL) (st : zS) (h : zH), zx 219 1145 ls st h = zgo 219 (zpure (.aload_n 2) 1146 0 [] ls st h)) ∧
  (∀ (ls : zL) (st : zS) (h : zH), zx 219 1146 ls st h = zca 219 1146 1149 ls 143 1 7 (ztake 1 st) h) ∧
  (∀ (ls : zL) (st : zS) (h : zH), zx 219 1149 ls st h = zgo 219 (zpure (.if_icmp .eq 1119) 1152 2268 [] ls st h)) ∧
  (∀ (ls : zL) (st : zS) (h : zH), zx 219 1152 ls st h = zgo 219 (zpure (.iconst 0) 1153 0 [] ls st h)) ∧
  (∀ (ls : zL) (st : zS) (h : zH), zx 219 1153 ls st h = zret 1 st h) :=
  ⟨zx_0 rfl, zx_2c rfl, zx_0 rfl, zx_0 rfl, zx_0 rfl, zx_1 rfl, zx_0 rfl, zx_0 rfl, zx_0 rfl, zx_0 rfl, zx_0 rfl, zx_0 rfl, zx_0 rfl, zx_0 rfl, zx_0 rfl, zx_0 rfl, zx_1 rfl, zx_0 rfl, zx_0 rfl, zx_0 rfl, zx_0 rfl, zx_0 rfl, zx_0 rfl, zx_0 rfl, zx_0 rfl, zx_2c rfl, zx_0 rfl, zx_0 rfl, zx_0 rfl, zx_0 rfl, zx_0 rfl, zx_0 rfl, zx_0 rfl, zx_2c rfl, zx_0 rfl, zx_0 rfl, zx_2c rfl, zx_0 rfl, zx_0 rfl, zx_0 rfl, zx_1 rfl, zx_0 rfl, zx_0 rfl, zx_0 rfl, zx_0 rfl, zx_0 rfl, zx_0 rfl, zx_0 rfl, zx_0 rfl, zx_0 rfl, zx_0 rfl, zx_1 rfl, zx_0 rfl, zx_0 rfl, zx_2c rfl, zx_0 rfl, zx_2c rfl, zx_0 rfl, zx_0 rfl, zx_1 rfl⟩
set_option maxRecDepth 4000 in
theorem z219_b11 :
  (∀ (ls : zL) (st : zS) (h : zH), zx 219 1154 ls st h = zgo 219 (zpure (.aload_n 1) 1155 0 [] ls st h)) ∧
  (∀ (ls : zL) (st : zS) (h : zH), zx 219 1155 ls st h = zgo 219 (zpure (.aload_n 0) 1156 0 [] ls st h)) ∧
  (∀ (ls : zL) (st : zS) (h : zH), zx 219 1156 ls st h = zgo 219 (zpure (.iload 5) 1158 0 [] ls st h)) ∧
  (∀ (ls : zL) (st : zS) (h : zH), zx 219 1158 ls st h = zgo 219 (zpure (.iconst 1) 1159 0 [] ls st h)) ∧
  (∀ (ls : zL) (st : zS) (h : zH), zx 219 1159 ls st h = zgo 219 (zpure .iadd 1160 0 [] ls st h)) ∧
  (∀ (ls : zL) (st : zS) (h : zH), zx 219 1160 ls st h = zgo 219 (zpure .iaload 1161 0 [] ls st h)) ∧
  (∀ (ls : zL) (st : zS) (h : zH), zx 219 1161 ls st h = zgo 219 (zpure (.aload_n 3) 1162 0 [] ls st h)) ∧
  (∀ (ls : zL) (st : zS) (h : zH), zx 219 1162 ls st h = zca 219 1162 1165 ls 201 4 0 (ztake 3 st) h) ∧
  (∀ (ls : zL) (st : zS) (h : zH), zx 219 1165 ls st h = zgo 219 (zpure (.istore 6) 1167 0 [] ls st h)) ∧
  (∀ (ls : zL) (st : zS) (h : zH), zx 219 1167 ls st h = zgo 219 (zpure (.aload_n 2) 1168 0 [] ls st h)) ∧
  (∀ (ls : zL) (st : zS) (h : zH), zx 219 1168 ls st h = zgo 219 (zpure (.aload_n 0) 1169 0 [] ls st h)) ∧
  (∀ (ls : zL) (st : zS) (h : zH), zx 219 1169 ls st h = zgo 219 (zpure (.iload 5) 1171 0 [] ls st h)) ∧
  (∀ (ls : zL) (st : zS) (h : zH), zx 219 1171 ls st h = zgo 219 (zpure (.iconst 1) 1172 0 [] ls st h)) ∧
  (∀ (ls : zL) (st : zS) (h : zH), zx 219 1172 ls st h = zgo 219 (zpure .iadd 1173 0 [] ls st h)) ∧
  (∀ (ls : zL) (st : zS) (h : zH), zx 219 1173 ls st h = zgo 219 (zpure .iaload 1174 0 [] ls st h)) ∧
  (∀ (ls : zL) (st : zS) (h : zH), zx 219 1174 ls st h = zca 219 1174 1177 ls 145 2 7 (ztake 2 st) h) ∧
  (∀ (ls : zL) (st : zS) (h : zH), zx 219 1177 ls st h = zgo 219 (zpure (.istore 7) 1179 0 [] ls st h)) ∧
  (∀ (ls : zL) (st : zS) (h : zH), zx 219 1179 ls st h = zgo 219 (zpure (.aload_n 2) 1180 0 [] ls st h)) ∧
  (∀ (ls : zL) (st : zS) (h : zH), zx 219 1180 ls st h = zca 219 1180 1183 ls 103 1 7 (ztake 1 st) h) ∧
  (∀ (ls : zL) (st : zS) (h : zH), zx 219 1183 ls st h = zgo 219 (zpure (.iload 6) 1185 0 [] ls st h)) ∧
  (∀ (ls : zL) (st : zS) (h : zH), zx 219 1185 ls st h = zgo 219 (zpure (.if_icmp .eq 5) 1188 1190 [] ls st h)) ∧
  (∀ (ls : zL) (st : zS) (h : zH), zx 219 1188 ls st h = zgo 219 (zpure (.iconst 0) 1189 0 [] ls st h)) ∧
  (∀ (ls : zL) (st : zS) (h : zH), zx 219 1189 ls st h = zret 1 st h) ∧
  (∀ (ls : zL) (st : zS) (h : zH), zx 219 1190 ls st h = zgo 219 (zpure (.iload 6) 1192 0 [] ls st h)) ∧
  (∀ (ls : zL) (st : zS) (h : zH), zx 219 1192 ls st h = zgo 219 (zpure (.ifCond .ne 15) 1195 1207 [] ls st h)) ∧
  (∀ (ls : zL) (st : zS) (h : zH), zx 219 1195 ls st h = zgo 219 (zpure (.aload_n 3) 1196 0 [] ls st h)) ∧
  (∀ (ls : zL) (st : zS) (h : zH), zx 219 1196 ls st h = zgo 219 (zpure (.iconst 0) 1197 0 [] ls st h)) ∧
  (∀ (ls : zL) (st : zS) (h : zH), zx 219 1197 ls st h = zgo 219 (zpure .laload 1198 0 [] ls st h)) ∧
  (∀ (ls : zL) (st : zS) (h : zH), zx 219 1198 ls st h = zgo 219 (zpure (.iload 7) 1200 0 [] ls st h)) ∧
  (∀ (ls : zL) (st : zS) (h : zH), zx 219 1200 ls st h = zgo 219 (zpure .i2l 1201 0 [] ls st h)) ∧
  (∀ (ls : zL) (st : zS) (h : zH), zx 219 1201 ls st h = zgo 219 (zpure .lcmp 1202 0 [] ls st h)) ∧
  (∀ (ls : zL) (st : zS) (h : zH), zx 219 1202 ls st h = zgo 219 (zpure (.ifCond .eq 5) 1205 1207 [] ls st h)) ∧
  (∀ (ls : zL) (st : zS) (h : zH), zx 219 1205 ls st h = zgo 219 (zpure (.iconst 0) 1206 0 [] ls st h)) ∧
  (∀ (ls : zL) (st : zS) (h : zH), zx 219 1206 ls st h = zret 1 st h) ∧
  (∀ (ls : zL) (st : zS) (h : zH), zx 219 1207 ls st h = zgo 219 (zpure (.goto 1061) 1210 2268 [] ls st h)) ∧
  (∀ (ls : zL) (st : zS) (h : zH), zx 219 1210 ls st h = zgo 219 (zpure (.aload_n 1) 1211 0 [] ls st h)) ∧
  (∀ (ls : zL) (st : zS) (h : zH), zx 219 1211 ls st h = zgo 219 (zpure (.aload_n 0) 1212 0 [] ls st h)) ∧
  (∀ (ls : zL) (st : zS) (h : zH), zx 219 1212 ls st h = zgo 219 (zpure (.iload 5) 1214 0 [] ls st h)) ∧
  (∀ (ls : zL) (st : zS) (h : zH), zx 219 1214 ls st h = zgo 219 (zpure (.iconst 1) 1215 0 [] ls st h)) ∧
  (∀ (ls : zL) (st : zS) (h : zH), zx 219 1215 ls st h = zgo 219 (zpure .iadd 1216 0 [] ls st h)) ∧
  (∀ (ls : zL) (st : zS) (h : zH), zx 219 1216 ls st h = zgo 219 (zpure .iaload 1217 0 [] ls st h)) ∧
  (∀ (ls : zL) (st : zS) (h : zH), zx 219 1217 ls st h = zgo 219 (zpure (.aload_n 3) 1218 0 [] ls st h)) ∧
  (∀ (ls : zL) (st : zS) (h : zH), zx 219 1218 ls st h = zca 219 1218 1221 ls 202 4 0 (ztake 3 st) h) ∧
  (∀ (ls : zL) (st : zS) (h : zH), zx 219 1221 ls st h = zgo 219 (zpure (.istore 6) 1223 0 [] ls st h)) ∧
  (∀ (ls : zL) (st : zS) (h : zH), zx 219 1223 ls st h = zgo 219 (zpure (.aload_n 2) 1224 0 [] ls st h)) ∧
  (∀ (ls : zL) (st : zS) (h : zH), zx 219 1224 ls st h = zgo 219 (zpure (.aload_n 0) 1225 0 [] ls st h)) ∧
  (∀ (ls : zL) (st : zS) (h : zH), zx 219 1225 ls st h = zgo 219 (zpure (.iload 5) 1227 0 [] ls st h)) ∧
  (∀ (ls : zL) (st : zS) (h : zH), zx 219 1227 ls st h = zgo 219 (zpure (.iconst 1) 1228 0 [] ls st h)) ∧
  (∀ (ls : zL) (st : zS) (h : zH), zx 219 1228 ls st h = zgo 219 (zpure .iadd 1229 0 [] ls st h)) ∧
  (∀ (ls : zL) (st : zS) (h : zH), zx 219 1229 ls st h = zgo 219 (zpure .iaload 1230 0 [] ls st h)) ∧
  (∀ (ls : zL) (st : zS) (h : zH), zx 219 1230 ls st h = zca 219 1230 1233 ls 146 2 7 (ztake 2 st) h) ∧
  (∀ (ls : zL) (st : zS) (h : zH), zx 219 1233 ls st h = zgo 219 (zpure (.istore 7) 1235 0 [] ls st h)) ∧
  (∀ (ls : zL) (st : zS) (h : zH), zx 219 1235 ls st h = zgo 219 (zpure (.aload_n 2) 1236 0 [] ls st h)) ∧
  (∀ (ls : zL) (st : zS) (h : zH), zx 219 1236 ls st h = zca 219 1236 1239 ls 103 1 7 (ztake 1 st) h) ∧
  (∀ (ls : zL) (st : zS) (h : zH), zx 219 1239 ls st h = zgo 219 (zpure (.iload 6) 1241 0 [] ls st h)) ∧
  (∀ (ls : zL) (st : zS) (h : zH), zx 219 1241 ls st h = zgo 219 (zpure (.if_icmp .eq 5) 1244 1246 [] ls st h)) ∧
  (∀ (ls : zL) (st : zS) (h : zH), zx 219 1244 ls st h = zgo 219 (zpure (.iconst 0) 1245 0 [] ls st h)) ∧
  (∀ (ls : zL) (st : zS) (h : zH), zx 219 1245 ls st h = zret 1 st h) ∧
  (∀ (ls : zL) (st : zS) (h : zH), zx 219 1246 ls st h = zgo 219 (zpure (.iload 6) 1248 0 [] ls st h)) ∧
  (∀ (ls : zL) (st : zS) (h : zH), zx 219 1248 ls st h = zgo 219 (zpure (.ifCond .ne 15) 1251 1263 [] ls st h)) :=
  ⟨zx_0 rfl, zx_0 rfl, zx_0 rfl, zx_0 rfl, zx_0 rfl, zx_0 rfl, zx_0 rfl, zx_2c rfl, zx_0 rfl, zx_0 rfl, zx_0 rfl, zx_0 rfl, zx_0 rfl, zx_0 rfl, zx_0 rfl, zx_2c rfl, zx_0 rfl, zx_0 rfl, zx_2c rfl, zx_0 rfl, zx_0 rfl, zx_0 rfl, zx_1 rfl, zx_0 rfl, zx_0 rfl, zx_0 rfl, zx_0 rfl, zx_0 rfl, zx_0 rfl, zx_0 rfl, zx_0 rfl, zx_0 rfl, zx_0 rfl, zx_1 rfl, zx_0 rfl, zx_0 rfl, zx_0 rfl, zx_0 rfl, zx_0 rfl, zx_0 rfl, zx_0 rfl, zx_0 rfl, zx_2c rfl, zx_0 rfl, zx_0 rfl, zx_0 rfl, zx_0 rfl, zx_0 rfl, zx_0 rfl, zx_0 rfl, zx_2c rfl, zx_0 rfl, zx_0 rfl, zx_2c rfl, zx_0 rfl, zx_0 rfl, zx_0 rfl, zx_1 rfl, zx_0 rfl, zx_0 rfl⟩
set_option maxRecDepth 4000 in
theorem z219_b12 :
  (∀ (ls : zL) (st : zS) (h : zH), zx 219 1251 ls st h = zgo 219 (zpure (.aload_n 3) 1252 0 [] ls st h)) ∧
  (∀ (ls : zL) (st : zS) (h : zH), zx 219 1252 ls st h = zgo 219 (zpure (.iconst 0) 1253 0 [] ls st h)) ∧
  (∀ (ls : zL) (st : zS) (h : zH), zx 219 1253 ls st h = zgo 219 (zpure .laload 1254 0 [] ls st h)) ∧
  (∀ (ls : zL) (st : zS) (h : zH), zx 219 1254 ls st h = zgo 219 (zpure (.iload 7) 1256 0 [] ls st h)) ∧
  (∀ (ls : zL) (st : zS) (h : zH), zx 219 1256 ls st h = zgo 219 (zpure .i2l 1257 0 [] ls st h)) ∧
  (∀ (ls : zL) (st : zS) (h : zH), zx 219 1257 ls st h = zgo 219 (zpure .lcmp 1258 0 [] ls st h)) ∧
  (∀ (ls : zL) (st : zS) (h : zH), zx 219 1258 ls st h = zgo 219 (zpure (.ifCond .eq 5) 1261 1263 [] ls st h)) ∧
  (∀ (ls : zL) (st : zS) (h : zH), zx 219 1261 ls st h = zgo 219 (zpure (.iconst 0) 1262 0 [] ls st h)) ∧
  (∀ (ls : zL) (st : zS) (h : zH), zx 219 1262 ls st h = zret 1 st h) ∧
  (∀ (ls : zL) (st : zS) (h : zH), zx 219 1263 ls st h = zgo 219 (zpure (.goto 1005) 1266 2268 [] ls st h)) ∧
  (∀ (ls : zL) (st : zS) (h : zH), zx 219 1266 ls st h = zgo 219 (zpure (.aload_n 1) 1267 0 [] ls st h)) ∧
  (∀ (ls : zL) (st : zS) (h : zH), zx 219 1267 ls st h = zgo 219 (zpure (.aload_n 0) 1268 0 [] ls st h)) ∧
  (∀ (ls : zL) (st : zS) (h : zH), zx 219 1268 ls st h = zgo 219 (zpure (.iload 5) 1270 0 [] ls st h)) ∧
  (∀ (ls : zL) (st : zS) (h : zH), zx 219 1270 ls st h = zgo 219 (zpure (.iconst 1) 1271 0 [] ls st h)) ∧
  (∀ (ls : zL) (st : zS) (h : zH), zx 219 1271 ls st h = zgo 219 (zpure .iadd 1272 0 [] ls st h)) ∧
  (∀ (ls : zL) (st : zS) (h : zH), zx 219 1272 ls st h = zgo 219 (zpure .iaload 1273 0 [] ls st h)) ∧
  (∀ (ls : zL) (st : zS) (h : zH), zx 219 1273 ls st h = zgo 219 (zpure (.aload_n 3) 1274 0 [] ls st h)) ∧
  (∀ (ls : zL) (st : zS) (h : zH), zx 219 1274 ls st h = zca 219 1274 1277 ls 203 4 0 (ztake 3 st) h) ∧
  (∀ (ls : zL) (st : zS) (h : zH), zx 219 1277 ls st h = zgo 219 (zpure (.istore 6) 1279 0 [] ls st h)) ∧
  (∀ (ls : zL) (st : zS) (h : zH), zx 219 1279 ls st h = zgo 219 (zpure (.aload_n 2) 1280 0 [] ls st h)) ∧
  (∀ (ls : zL) (st : zS) (h : zH), zx 219 1280 ls st h = zgo 219 (zpure (.aload_n 0) 1281 0 [] ls st h)) ∧
  (∀ (ls : zL) (st : zS) (h : zH), zx 219 1281 ls st h = zgo 219 (zpure (.iload 5) 1283 0 [] ls st h)) ∧
  (∀ (ls : zL) (st : zS) (h : zH), zx 219 1283 ls st h = zgo 219 (zpure (.iconst 1) 1284 0 [] ls st h)) ∧
  (∀ (ls : zL) (st : zS) (h : zH), zx 219 1284 ls st h = zgo 219 (zpure .iadd 1285 0 [] ls st h)) ∧
  (∀ (ls : zL) (st : zS) (h : zH), zx 219 1285 ls st h = zgo 219 (zpure .iaload 1286 0 [] ls st h)) ∧
  (∀ (ls : zL) (st : zS) (h : zH), zx 219 1286 ls st h = zca 219 1286 1289 ls 147 2 7 (ztake 2 st) h) ∧
  (∀ (ls : zL) (st : zS) (h : zH), zx 219 1289 ls st h = zgo 219 (zpure (.istore 7) 1291 0 [] ls st h)) ∧
  (∀ (ls : zL) (st : zS) (h : zH), zx 219 1291 ls st h = zgo 219 (zpure (.aload_n 2) 1292 0 [] ls st h)) ∧
  (∀ (ls : zL) (st : zS) (h : zH), zx 219 1292 ls st h = zca 219 1292 1295 ls 103 1 7 (ztake 1 st) h) ∧
  (∀ (ls : zL) (st : zS) (h : zH), zx 219 1295 ls st h = zgo 219 (zpure (.iload 6) 1297 0 [] ls st h)) ∧
  (∀ (ls : zL) (st : zS) (h : zH), zx 219 1297 ls st h = zgo 219 (zpure (.if_icmp .eq 5) 1300 1302 [] ls st h)) ∧
  (∀ (ls : zL) (st : zS) (h : zH), zx 219 1300 ls st h = zgo 219 (zpure (.iconst 0) 1301 0 [] ls st h)) ∧
  (∀ (ls : zL) (st : zS) (h : zH), zx 219 1301 ls st h = zret 1 st h) ∧
  (∀ (ls : zL) (st : zS) (h : zH), zx 219 1302 ls st h = zgo 219 (zpure (.iload 6) 1304 0 [] ls st h)) ∧
  (∀ (ls : zL) (st : zS) (h : zH), zx 219 1304 ls st h = zgo 219 (zpure (.ifCond .ne 15) 1307 1319 [] ls st h)) ∧
  (∀ (ls : zL) (st : zS) (h : zH), zx 219 1307 ls st h = zgo 219 (zpure (.aload_n 3) 1308 0 [] ls st h)) ∧
  (∀ (ls : zL) (st : zS) (h : zH), zx 219 1308 ls st h = zgo 219 (zpure (.iconst 0) 1309 0 [] ls st h)) ∧
  (∀ (ls : zL) (st : zS) (h : zH), zx 219 1309 ls st h = zgo 219 (zpure .laload 1310 0 [] ls st h)) ∧
  (∀ (ls : zL) (st : zS) (h : zH), zx 219 1310 ls st h = zgo 219 (zpure (.iload 7) 1312 0 [] ls st h)) ∧
  (∀ (ls : zL) (st : zS) (h : zH), zx 219 1312 ls st h = zgo 219 (zpure .i2l 1313 0 [] ls st h)) ∧
  (∀ (ls : zL) (st : zS) (h : zH), zx 219 1313 ls st h = zgo 219 (zpure .lcmp 1314 0 [] ls st h)) ∧
  (∀ (ls : zL) (st : zS) (h : zH), zx 219 1314 ls st h = zgo 219 (zpure (.ifCond .eq 5) 1317 1319 [] ls st h)) ∧
  (∀ (ls : zL) (st : zS) (h : zH), zx 219 1317 ls st h = zgo 219 (zpure (.iconst 0) 1318 0 [] ls st h)) ∧
  (∀ (ls : zL) (st : zS) (h : zH), zx 219 1318 ls st h = zret 1 st h) ∧
  (∀ (ls : zL) (st : zS) (h : zH), zx 219 1319 ls st h = zgo 219 (zpure (.goto 949) 1322 2268 [] ls st h)) ∧
  (∀ (ls : zL) (st : zS) (h : zH), zx 219 1322 ls st h = zgo 219 (zpure (.aload_n 1) 1323 0 [] ls st h)) ∧
  (∀ (ls : zL) (st : zS) (h : zH), zx 219 1323 ls st h = zgo 219 (zpure (.aload_n 0) 1324 0 [] ls st h)) ∧
  (∀ (ls : zL) (st : zS) (h : zH), zx 219 1324 ls st h = zgo 219 (zpure (.iload 5) 1326 0 [] ls st h)) ∧
  (∀ (ls : zL) (st : zS) (h : zH), zx 219 1326 ls st h = zgo 219 (zpure (.iconst 1) 1327 0 [] ls st h)) ∧
  (∀ (ls : zL) (st : zS) (h : zH), zx 219 1327 ls st h = zgo 219 (zpure .iadd 1328 0 [] ls st h)) ∧
  (∀ (ls : zL) (st : zS) (h : zH), zx 219 1328 ls st h = zgo 219 (zpure .iaload 1329 0 [] ls st h)) ∧
  (∀ (ls : zL) (st : zS) (h : zH), zx 219 1329 ls st h = zgo 219 (zpure (.aload_n 3) 1330 0 [] ls st h)) ∧
  (∀ (ls : zL) (st : zS) (h : zH), zx 219 1330 ls st h = zca 219 1330 1333 ls 204 4 0 (ztake 3 st) h) ∧
  (∀ (ls : zL) (st : zS) (h : zH), zx 219 1333 ls st h = zgo 219 (zpure (.istore 6) 1335 0 [] ls st h)) ∧
  (∀ (ls : zL) (st : zS) (h : zH), zx 219 1335 ls st h = zgo 219 (zpure (.aload_n 2) 1336 0 [] ls st h)) ∧
  (∀ (ls : zL) (st : zS) (h : zH), zx 219 1336 ls st h = zgo 219 (zpure (.aload_n 0) 1337 0 [] ls st h)) ∧
  (∀ (ls : zL) (st : zS) (h : zH), zx 219 1337 ls st h = zgo 219 (zpure (.iload 5) 1339 0 [] ls st h)) ∧
  (∀ (ls : zL) (st : zS) (h : zH), zx 219 1339 ls st h = zgo 219 (zpure (.iconst 1) 1340 0 [] ls st h)) ∧
  (∀ (ls : zL) (st : zS) (h : zH), zx 219 1340 ls st h = zgo 219 (zpure .iadd 1341 0 [] ls st h)) ∧
  (∀ (ls : zL) (st : zS) (h : zH), zx 219 1341 ls st h = zgo 219 (zpure .iaload 1342 0 [] ls st h)) :=
  ⟨zx_0 rfl, zx_0 rfl, zx_0 rfl, zx_0 rfl, zx_0 rfl, zx_0 rfl, zx_0 rfl, zx_0 rfl, zx_1 rfl, zx_0 rfl, zx_0 rfl, zx_0 rfl, zx_0 rfl, zx_0 rfl, zx_0 rfl, zx_0 rfl, zx_0 rfl, zx_2c rfl, zx_0 rfl, zx_0 rfl, zx_0 rfl, zx_0 rfl, zx_0 rfl, zx_0 rfl, zx_0 rfl, zx_2c rfl, zx_0 rfl, zx_0 rfl, zx_2c rfl, zx_0 rfl, zx_0 rfl, zx_0 rfl, zx_1 rfl, zx_0 rfl, zx_0 rfl, zx_0 rfl, zx_0 rfl, zx_0 rfl, zx_0 rfl, zx_0 rfl, zx_0 rfl, zx_0 rfl, zx_0 rfl, zx_1 rfl, zx_0 rfl, zx_0 rfl, zx_0 rfl, zx_0 rfl, zx_0 rfl, zx_0 rfl, zx_0 rfl, zx_0 rfl, zx_2c rfl, zx_0 rfl, zx_0 rfl, zx_0 rfl, zx_0 rfl, zx_0 rfl, zx_0 rfl, zx_0 rfl⟩
set_option maxRecDepth 4000 in
theorem z219_b13 :
  (∀ (ls : zL) (st : zS) (h : zH), zx 219 1342 ls st h = zca 219 1342 1345 ls 149 2 7 (ztake 2 st) h) ∧
  (∀ (ls : zL) (st : zS) (h : zH), zx 219 1345 ls st h = zgo 219 (zpure (.istore 7) 1347 0 [] ls st h)) ∧
  (∀ (ls : zL) (st : zS) (h : zH), zx 219 1347 ls st h = zgo 219 (zpure (.aload_n 2) 1348 0 [] ls st h)) ∧
  (∀ (ls : zL) (st : zS) (h : zH), zx 219 1348 ls st h = zca 219 1348 1351 ls 103 1 7 (ztake 1 st) h) ∧
  (∀ (ls : zL) (st : zS) (h : zH), zx 219 1351 ls st h = zgo 219 (zpure (.iload 6) 1353 0 [] ls st h)) ∧
  (∀ (ls : zL) (st : zS) (h : zH), zx 219 1353 ls st h = zgo 219 (zpure (.if_icmp .eq 5) 1356 1358 [] ls st h)) ∧
  (∀ (ls : zL) (st : zS) (h : zH), zx 219 1356 ls st h = zgo 219 (zpure (.iconst 0) 1357 0 [] ls st h)) ∧
  (∀ (ls : zL) (st : zS) (h : zH), zx 219 1357 ls st h = zret 1 st h) ∧
  (∀ (ls : zL) (st : zS) (h : zH), zx 219 1358 ls st h = zgo 219 (zpure (.iload 6) 1360 0 [] ls st h)) ∧
  (∀ (ls : zL) (st : zS) (h : zH), zx 219 1360 ls st h = zgo 219 (zpure (.ifCond .ne 15) 1363 1375 [] ls st h)) ∧
  (∀ (ls : zL) (st : zS) (h : zH), zx 219 1363 ls st h = zgo 219 (zpure (.aload_n 3) 1364 0 [] ls st h)) ∧
  (∀ (ls : zL) (st : zS) (h : zH), zx 219 1364 ls st h = zgo 219 (zpure (.iconst 0) 1365 0 [] ls st h)) ∧
  (∀ (ls : zL) (st : zS) (h : zH), zx 219 1365 ls st h = zgo 219 (zpure .laload 1366 0 [] ls st h)) ∧
  (∀ (ls : zL) (st : zS) (h : zH), zx 219 1366 ls st h = zgo 219 (zpure (.iload 7) 1368 0 [] ls st h)) ∧
  (∀ (ls : zL) (st : zS) (h : zH), zx 219 1368 ls st h = zgo 219 (zpure .i2l 1369 0 [] ls st h)) ∧
  (∀ (ls : zL) (st : zS) (h : zH), zx 219 1369 ls st h = zgo 219 (zpure .lcmp 1370 0 [] ls st h)) ∧
  (∀ (ls : zL) (st : zS) (h : zH), zx 219 1370 ls st h = zgo 219 (zpure (.ifCond .eq 5) 1373 1375 [] ls st h)) ∧
  (∀ (ls : zL) (st : zS) (h : zH), zx 219 1373 ls st h = zgo 219 (zpure (.iconst 0) 1374 0 [] ls st h)) ∧
  (∀ (ls : zL) (st : zS) (h : zH), zx 219 1374 ls st h = zret 1 st h) ∧
  (∀ (ls : zL) (st : zS) (h : zH), zx 219 1375 ls st h = zgo 219 (zpure (.goto 893) 1378 2268 [] ls st h)) ∧
  (∀ (ls : zL) (st : zS) (h : zH), zx 219 1378 ls st h = zgo 219 (zpure (.aload_n 1) 1379 0 [] ls st h)) ∧
  (∀ (ls : zL) (st : zS) (h : zH), zx 219 1379 ls st h = zgo 219 (zpure (.aload_n 0) 1380 0 [] ls st h)) ∧
  (∀ (ls : zL) (st : zS) (h : zH), zx 219 1380 ls st h = zgo 219 (zpure (.iload 5) 1382 0 [] ls st h)) ∧
  (∀ (ls : zL) (st : zS) (h : zH), zx 219 1382 ls st h = zgo 219 (zpure (.iconst 1) 1383 0 [] ls st h)) ∧
  (∀ (ls : zL) (st : zS) (h : zH), zx 219 1383 ls st h = zgo 219 (zpure .iadd 1384 0 [] ls st h)) ∧
  (∀ (ls : zL) (st : zS) (h : zH), zx 219 1384 ls st h = zgo 219 (zpure .iaload 1385 0 [] ls st h)) ∧
  (∀ (ls : zL) (st : zS) (h : zH), zx 219 1385 ls st h = zgo 219 (zpure (.aload_n 3) 1386 0 [] ls st h)) ∧
  (∀ (ls : zL) (st : zS) (h : zH), zx 219 1386 ls st h = zca 219 1386 1389 ls 205 4 0 (ztake 3 st) h) ∧
  (∀ (ls : zL) (st : zS) (h : zH), zx 219 1389 ls st h = zgo 219 (zpure (.istore 6) 1391 0 [] ls st h)) ∧
  (∀ (ls : zL) (st : zS) (h : zH), zx 219 1391 ls st h = zgo 219 (zpure (.aload_n 2) 1392 0 [] ls st h)) ∧
  (∀ (ls : zL) (st : zS) (h : zH), zx 219 1392 ls st h = zgo 219 (zpure (.aload_n 0) 1393 0 [] ls st h)) ∧
  (∀ (ls : zL) (st : zS) (h : zH), zx 219 1393 ls st h = zgo 219 (zpure (.iload 5) 1395 0 [] ls st h)) ∧
  (∀ (ls : zL) (st : zS) (h : zH), zx 219 1395 ls st h = zgo 219 (zpure (.iconst 1) 1396 0 [] ls st h)) ∧
  (∀ (ls : zL) (st : zS) (h : zH), zx 219 1396 ls st h = zgo 219 (zpure .iadd 1397 0 [] ls st h)) ∧
  (∀ (ls : zL) (st : zS) (h : zH), zx 219 1397 ls st h = zgo 219 (zpure .iaload 1398 0 [] ls st h)) ∧
  (∀ (ls : zL) (st : zS) (h : zH), zx 219 1398 ls st h = zca 219 1398 1401 ls 150 2 7 (ztake 2 st) h) ∧
  (∀ (ls : zL) (st : zS) (h : zH), zx 219 1401 ls st h = zgo 219 (zpure (.istore 7) 1403 0 [] ls st h)) ∧
  (∀ (ls : zL) (st : zS) (h : zH), zx 219 1403 ls st h = zgo 219 (zpure (.aload_n 2) 1404 0 [] ls st h)) ∧
  (∀ (ls : zL) (st : zS) (h : zH), zx 219 1404 ls st h = zca 219 1404 1407 ls 103 1 7 (ztake 1 st) h) ∧
  (∀ (ls : zL) (st : zS) (h : zH), zx 219 1407 ls st h = zgo 219 (zpure (.iload 6) 1409 0 [] ls st h)) ∧
  (∀ (ls : zL) (st : zS) (h : zH), zx 219 1409 ls st h = zgo 219 (zpure (.if_icmp .eq 5) 1412 1414 [] ls st h)) ∧
  (∀ (ls : zL) (st : zS) (h : zH), zx 219 1412 ls st h = zgo 219 (zpure (.iconst 0) 1413 0 [] ls st h)) ∧
  (∀ (ls : zL) (st : zS) (h : zH), zx 219 1413 ls st h = zret 1 st h) ∧
  (∀ (ls : zL) (st : zS) (h : zH), zx 219 1414 ls st h = zgo 219 (zpure (.iload 6) 1416 0 [] ls st h)) ∧
  (∀ (ls : zL) (st : zS) (h : zH), zx 219 1416 ls st h = zgo 219 (zpure (.ifCond .ne 15) 1419 1431 [] ls st h)) ∧
  (∀ (ls : zL) (st : zS) (h : zH), zx 219 1419 ls st h = zgo 219 (zpure (.aload_n 3) 1420 0 [] ls st h)) ∧
  (∀ (ls : zL) (st : zS) (h : zH), zx 219 1420 ls st h = zgo 219 (zpure (.iconst 0) 1421 0 [] ls st h)) ∧
  (∀ (ls : zL) (st : zS) (h : zH), zx 219 1421 ls st h = zgo 219 (zpure .laload 1422 0 [] ls st h)) ∧
  (∀ (ls : zL) (st : zS) (h : zH), zx 219 1422 ls st h = zgo 219 (zpure (.iload 7) 1424 0 [] ls st h)) ∧
  (∀ (ls : zL) (st : zS) (h : zH), zx 219 1424 ls st h = zgo 219 (zpure .i2l 1425 0 [] ls st h)) ∧
  (∀ (ls : zL) (st : zS) (h : zH), zx 219 1425 ls st h = zgo 219 (zpure .lcmp 1426 0 [] ls st h)) ∧
  (∀ (ls : zL) (st : zS) (h : zH), zx 219 1426 ls st h = zgo 219 (zpure (.ifCond .eq 5) 1429 1431 [] ls st h)) ∧
  (∀ (ls : zL) (st : zS) (h : zH), zx 219 1429 ls st h = zgo 219 (zpure (.iconst 0) 1430 0 [] ls st h)) ∧
  (∀ (ls : zL) (st : zS) (h : zH), zx 219 1430 ls st h = zret 1 st h) ∧
  (∀ (ls : zL) (st : zS) (h : zH), zx 219 1431 ls st h = zgo 219 (zpure (.goto 837) 1434 2268 [] ls st h)) ∧
  (∀ (ls : zL) (st : zS) (h : zH), zx 219 1434 ls st h = zgo 219 (zpure (.aload_n 1) 1435 0 [] ls st h)) ∧
  (∀ (ls : zL) (st : zS) (h : zH), zx 219 1435 ls st h = zca 219 1435 1438 ls 62 3 6 (ztake 1 st) h) ∧
  (∀ (ls : zL) (st : zS) (h : zH), zx 219 1438 ls st h = zgo 219 (zpure (.aload_n 2) 1439 0 [] ls st h)) ∧
  (∀ (ls : zL) (st : zS) (h : zH), zx 219 1439 ls st h = zca 219 1439 1442 ls 151 3 7 (ztake 1 st) h) ∧
  (∀ (ls : zL) (st : zS) (h : zH), zx 219 1442 ls st h = zgo 219 (zpure (.if_icmp .eq 826) 1445 2268 [] ls st h)) :=
  ⟨zx_2c rfl, zx_0 rfl, zx_0 rfl, zx_2c rfl, zx_0 rfl, zx_0 rfl, zx_0 rfl, zx_1 rfl, zx_0 rfl, zx_0 rfl, zx_0 rfl, zx_0 rfl, zx_0 rfl, zx_0 rfl, zx_0 rfl, zx_0 rfl, zx_0 rfl, zx_0 rfl, zx_1 rfl, zx_0 rfl, zx_0 rfl, zx_0 rfl, zx_0 rfl, zx_0 rfl, zx_0 rfl, zx_0 rfl, zx_0 rfl, zx_2c rfl, zx_0 rfl, zx_0 rfl, zx_0 rfl, zx_0 rfl, zx_0 rfl, zx_0 rfl, zx_0 rfl, zx_2c rfl, zx_0 rfl, zx_0 rfl, zx_2c rfl, zx_0 rfl, zx_0 rfl, zx_0 rfl, zx_1 rfl, zx_0 rfl, zx_0 rfl, zx_0 rfl, zx_0 rfl, zx_0 rfl, zx_0 rfl, zx_0 rfl, zx_0 rfl, zx_0 rfl, zx_0 rfl, zx_1 rfl, zx_0 rfl, zx_0 rfl, zx_2c rfl, zx_0 rfl, zx_2c rfl, zx_0 rfl⟩
set_option maxRecDepth 4000 in
theorem z219_b14 :
  (∀ (ls : zL) (st : zS) (h : zH), zx 219 1445 ls st h = zgo 219 (zpure (.iconst 0) 1446 0 [] ls st h)) ∧
  (∀ (ls : zL) (st : zS) (h : zH), zx 219 1446 ls st h = zret 1 st h) ∧
  (∀ (ls : zL) (st : zS) (h : zH), zx 219 1447 ls st h = zgo 219 (zpure (.aload_n 1) 1448 0 [] ls st h)) ∧
  (∀ (ls : zL) (st : zS) (h : zH), zx 219 1448 ls st h = zgo 219 (zpure (.aload_n 0) 1449 0 [] ls st h)) ∧
  (∀ (ls : zL) (st : zS) (h : zH), zx 219 1449 ls st h = zgo 219 (zpure (.iload 5) 1451 0 [] ls st h)) ∧
  (∀ (ls : zL) (st : zS) (h : zH), zx 219 1451 ls st h = zgo 219 (zpure (.iconst 1) 1452 0 [] ls st h)) ∧
  (∀ (ls : zL) (st : zS) (h : zH), zx 219 1452 ls st h = zgo 219 (zpure .iadd 1453 0 [] ls st h)) ∧
  (∀ (ls : zL) (st : zS) (h : zH), zx 219 1453 ls st h = zgo 219 (zpure .iaload 1454 0 [] ls st h)) ∧
  (∀ (ls : zL) (st : zS) (h : zH), zx 219 1454 ls st h = zgo 219 (zpure (.aload_n 3) 1455 0 [] ls st h)) ∧
  (∀ (ls : zL) (st : zS) (h : zH), zx 219 1455 ls st h = zca 219 1455 1458 ls 206 4 0 (ztake 3 st) h) ∧
  (∀ (ls : zL) (st : zS) (h : zH), zx 219 1458 ls st h = zgo 219 (zpure (.istore 6) 1460 0 [] ls st h)) ∧
  (∀ (ls : zL) (st : zS) (h : zH), zx 219 1460 ls st h = zgo 219 (zpure (.aload_n 2) 1461 0 [] ls st h)) ∧
  (∀ (ls : zL) (st : zS) (h : zH), zx 219 1461 ls st h = zgo 219 (zpure (.aload_n 0) 1462 0 [] ls st h)) ∧
  (∀ (ls : zL) (st : zS) (h : zH), zx 219 1462 ls st h = zgo 219 (zpure (.iload 5) 1464 0 [] ls st h)) ∧
  (∀ (ls : zL) (st : zS) (h : zH), zx 219 1464 ls st h = zgo 219 (zpure (.iconst 1) 1465 0 [] ls st h)) ∧
  (∀ (ls : zL) (st : zS) (h : zH), zx 219 1465 ls st h = zgo 219 (zpure .iadd 1466 0 [] ls st h)) ∧
  (∀ (ls : zL) (st : zS) (h : zH), zx 219 1466 ls st h = zgo 219 (zpure .iaload 1467 0 [] ls st h)) ∧
  (∀ (ls : zL) (st : zS) (h : zH), zx 219 1467 ls st h = zca 219 1467 1470 ls 153 6 7 (ztake 2 st) h) ∧
  (∀ (ls : zL) (st : zS) (h : zH), zx 219 1470 ls st h = zgo 219 (zpure (.istore 7) 1472 0 [] ls st h)) ∧
  (∀ (ls : zL) (st : zS) (h : zH), zx 219 1472 ls st h = zgo 219 (zpure (.aload_n 2) 1473 0 [] ls st h)) ∧
  (∀ (ls : zL) (st : zS) (h : zH), zx 219 1473 ls st h = zca 219 1473 1476 ls 103 1 7 (ztake 1 st) h) ∧
  (∀ (ls : zL) (st : zS) (h : zH), zx 219 1476 ls st h = zgo 219 (zpure (.iload 6) 1478 0 [] ls st h)) ∧
  (∀ (ls : zL) (st : zS) (h : zH), zx 219 1478 ls st h = zgo 219 (zpure (.if_icmp .eq 5) 1481 1483 [] ls st h)) ∧
  (∀ (ls : zL) (st : zS) (h : zH), zx 219 1481 ls st h = zgo 219 (zpure (.iconst 0) 1482 0 [] ls st h)) ∧
  (∀ (ls : zL) (st : zS) (h : zH), zx 219 1482 ls st h = zret 1 st h) ∧
  (∀ (ls : zL) (st : zS) (h : zH), zx 219 1483 ls st h = zgo 219 (zpure (.iload 6) 1485 0 [] ls st h)) ∧
  (∀ (ls : zL) (st : zS) (h : zH), zx 219 1485 ls st h = zgo 219 (zpure (.ifCond .ne 15) 1488 1500 [] ls st h)) ∧
  (∀ (ls : zL) (st : zS) (h : zH), zx 219 1488 ls st h = zgo 219 (zpure (.aload_n 3) 1489 0 [] ls st h)) ∧
  (∀ (ls : zL) (st : zS) (h : zH), zx 219 1489 ls st h = zgo 219 (zpure (.iconst 0) 1490 0 [] ls st h)) ∧
  (∀ (ls : zL) (st : zS) (h : zH), zx 219 1490 ls st h = zgo 219 (zpure .laload 1491 0 [] ls st h)) ∧
  (∀ (ls : zL) (st : zS) (h : zH), zx 219 1491 ls st h = zgo 219 (zpure (.iload 7) 1493 0 [] ls st h)) ∧
  (∀ (ls : zL) (st : zS) (h : zH), zx 219 1493 ls st h = zgo 219 (zpure .i2l 1494 0 [] ls st h)) ∧
  (∀ (ls : zL) (st : zS) (h : zH), zx 219 1494 ls st h = zgo 219 (zpure .lcmp 1495 0 [] ls st h)) ∧
  (∀ (ls : zL) (st : zS) (h : zH), zx 219 1495 ls st h = zgo 219 (zpure (.ifCond .eq 5) 1498 1500 [] ls st h)) ∧
  (∀ (ls : zL) (st : zS) (h : zH), zx 219 1498 ls st h = zgo 219 (zpure (.iconst 0) 1499 0 [] ls st h)) ∧
  (∀ (ls : zL) (st : zS) (h : zH), zx 219 1499 ls st h = zret 1 st h) ∧
  (∀ (ls : zL) (st : zS) (h : zH), zx 219 1500 ls st h = zgo 219 (zpure (.goto 768) 1503 2268 [] ls st h)) ∧
  (∀ (ls : zL) (st : zS) (h : zH), zx 219 1503 ls st h = zgo 219 (zpure (.aload_n 1) 1504 0 [] ls st h)) ∧
  (∀ (ls : zL) (st : zS) (h : zH), zx 219 1504 ls st h = zgo 219 (zpure (.aload_n 0) 1505 0 [] ls st h)) ∧
  (∀ (ls : zL) (st : zS) (h : zH), zx 219 1505 ls st h = zgo 219 (zpure (.iload 5) 1507 0 [] ls st h)) ∧
  (∀ (ls : zL) (st : zS) (h : zH), zx 219 1507 ls st h = zgo 219 (zpure (.iconst 1) 1508 0 [] ls st h)) ∧
  (∀ (ls : zL) (st : zS) (h : zH), zx 219 1508 ls st h = zgo 219 (zpure .iadd 1509 0 [] ls st h)) ∧
  (∀ (ls : zL) (st : zS) (h : zH), zx 219 1509 ls st h = zgo 219 (zpure .iaload 1510 0 [] ls st h)) ∧
  (∀ (ls : zL) (st : zS) (h : zH), zx 219 1510 ls st h = zgo 219 (zpure (.aload_n 0) 1511 0 [] ls st h)) ∧
  (∀ (ls : zL) (st : zS) (h : zH), zx 219 1511 ls st h = zgo 219 (zpure (.iload 5) 1513 0 [] ls st h)) ∧
  (∀ (ls : zL) (st : zS) (h : zH), zx 219 1513 ls st h = zgo 219 (zpure (.iconst 2) 1514 0 [] ls st h)) ∧
  (∀ (ls : zL) (st : zS) (h : zH), zx 219 1514 ls st h = zgo 219 (zpure .iadd 1515 0 [] ls st h)) ∧
  (∀ (ls : zL) (st : zS) (h : zH), zx 219 1515 ls st h = zgo 219 (zpure .iaload 1516 0 [] ls st h)) ∧
  (∀ (ls : zL) (st : zS) (h : zH), zx 219 1516 ls st h = zgo 219 (zpure (.aload_n 3) 1517 0 [] ls st h)) ∧
  (∀ (ls : zL) (st : zS) (h : zH), zx 219 1517 ls st h = zca 219 1517 1520 ls 207 5 0 (ztake 4 st) h) ∧
  (∀ (ls : zL) (st : zS) (h : zH), zx 219 1520 ls st h = zgo 219 (zpure (.istore 6) 1522 0 [] ls st h)) ∧
  (∀ (ls : zL) (st : zS) (h : zH), zx 219 1522 ls st h = zgo 219 (zpure (.aload_n 2) 1523 0 [] ls st h)) ∧
  (∀ (ls : zL) (st : zS) (h : zH), zx 219 1523 ls st h = zgo 219 (zpure (.aload_n 0) 1524 0 [] ls st h)) ∧
  (∀ (ls : zL) (st : zS) (h : zH), zx 219 1524 ls st h = zgo 219 (zpure (.iload 5) 1526 0 [] ls st h)) ∧
  (∀ (ls : zL) (st : zS) (h : zH), zx 219 1526 ls st h = zgo 219 (zpure (.iconst 1) 1527 0 [] ls st h)) ∧
  (∀ (ls : zL) (st : zS) (h : zH), zx 219 1527 ls st h = zgo 219 (zpure .iadd 1528 0 [] ls st h)) ∧
  (∀ (ls : zL) (st : zS) (h : zH), zx 219 1528 ls st h = zgo 219 (zpure .iaload 1529 0 [] ls st h)) ∧
  (∀ (ls : zL) (st : zS) (h : zH), zx 219 1529 ls st h = zgo 219 (zpure (.aload_n 0) 1530 0 [] ls st h)) ∧
  (∀ (ls : zL) (st : zS) (h : zH), zx 219 1530 ls st h = zgo 219 (zpure (.iload 5) 1532 0 [] ls st h)) ∧
  (∀ (ls : zL) (st : zS) (h : zH), zx 219 1532 ls st h = zgo 219 (zpure (.iconst 2) 1533 0 [] ls st h)) :=
  ⟨zx_0 rfl, zx_1 rfl, zx_0 rfl, zx_0 rfl, zx_0 rfl, zx_0 rfl, zx_0 rfl, zx_0 rfl, zx_0 rfl, zx_2c rfl, zx_0 rfl, zx_0 rfl, zx_0 rfl, zx_0 rfl, zx_0 rfl, zx_0 rfl, zx_0 rfl, zx_2c rfl, zx_0 rfl, zx_0 rfl, zx_2c rfl, zx_0 rfl, zx_0 rfl, zx_0 rfl, zx_1 rfl, zx_0 rfl, zx_0 rfl, zx_0 rfl, zx_0 rfl, zx_0 rfl, zx_0 rfl, zx_0 rfl, zx_0 rfl, zx_0 rfl, zx_0 rfl, zx_1 rfl, zx_0 rfl, zx_0 rfl, zx_0 rfl, zx_0 rfl, zx_0 rfl, zx_0 rfl, zx_0 rfl, zx_0 rfl, zx_0 rfl, zx_0 rfl, zx_0 rfl, zx_0 rfl, zx_0 rfl, zx_2c rfl, zx_0 rfl, zx_0 rfl, zx_0 rfl, zx_0 rfl, zx_0 rfl, zx_0 rfl, zx_0 rfl, zx_0 rfl, zx_0 rfl, zx_0 rfl⟩
set_option maxRecDepth 4000 in
theorem z219_b15 :
  (∀ (ls : zL) (st : zS) (h : zH), zx 219 1533 ls st h = zgo 219 (zpure .iadd 1534 0 [] ls st h)) ∧
  (∀ (ls : zL) (st : zS) (h : zH), zx 219 1534 ls st h = zgo 219 (zpure .iaload 1535 0 [] ls st h)) ∧
  (∀ (ls : zL) (st : zS) (h : zH), zx 219 1535 ls st h = zca 219 1535 1538 ls 154 4 7 (ztake 3 st) h) ∧
  (∀ (ls : zL) (st : zS) (h : zH), zx 219 1538 ls st h = zgo 219 (zpure (.istore 7) 1540 0 [] ls st h)) ∧
  (∀ (ls : zL) (st : zS) (h : zH), zx 219 1540 ls st h = zgo 219 (zpure (.aload_n 2) 1541 0 [] ls st h)) ∧
  (∀ (ls : zL) (st : zS) (h : zH), zx 219 1541 ls st h = zca 219 1541 1544 ls 103 1 7 (ztake 1 st) h) ∧
  (∀ (ls : zL) (st : zS) (h : zH), zx 219 1544 ls st h = zgo 219 (zpure (.iload 6) 1546 0 [] ls st h)) ∧
  (∀ (ls : zL) (st : zS) (h : zH), zx 219 1546 ls st h = zgo 219 (zpure (.if_icmp .eq 5) 1549 1551 [] ls st h)) ∧
  (∀ (ls : zL) (st : zS) (h : zH), zx 219 1549 ls st h = zgo 219 (zpure (.iconst 0) 1550 0 [] ls st h)) ∧
  (∀ (ls : zL) (st : zS) (h : zH), zx 219 1550 ls st h = zret 1 st h) ∧
  (∀ (ls : zL) (st : zS) (h : zH), zx 219 1551 ls st h = zgo 219 (zpure (.iload 6) 1553 0 [] ls st h)) ∧
  (∀ (ls : zL) (st : zS) (h : zH), zx 219 1553 ls st h = zgo 219 (zpure (.ifCond .ne 15) 1556 1568 [] ls st h)) ∧
  (∀ (ls : zL) (st : zS) (h : zH), zx 219 1556 ls st h = zgo 219 (zpure (.aload_n 3) 1557 0 [] ls st h)) ∧
  (∀ (ls : zL) (st : zS) (h : zH), zx 219 1557 ls st h = zgo 219 (zpure (.iconst 0) 1558 0 [] ls st h)) ∧
  (∀ (ls : zL) (st : zS) (h : zH), zx 219 1558 ls st h = zgo 219 (zpure .laload 1559 0 [] ls st h)) ∧
  (∀ (ls : zL) (st : zS) (h : zH), zx 219 1559 ls st h = zgo 219 (zpure (.iload 7) 1561 0 [] ls st h)) ∧
  (∀ (ls : zL) (st : zS) (h : zH), zx 219 1561 ls st h = zgo 219 (zpure .i2l 1562 0 [] ls st h)) ∧
  (∀ (ls : zL) (st : zS) (h : zH), zx 219 1562 ls st h = zgo 219 (zpure .lcmp 1563 0 [] ls st h)) ∧
  (∀ (ls : zL) (st : zS) (h : zH), zx 219 1563 ls st h = zgo 219 (zpure (.ifCond .eq 5) 1566 1568 [] ls st h)) ∧
  (∀ (ls : zL) (st : zS) (h : zH), zx 219 1566 ls st h = zgo 219 (zpure (.iconst 0) 1567 0 [] ls st h)) ∧
  (∀ (ls : zL) (st : zS) (h : zH), zx 219 1567 ls st h = zret 1 st h) ∧
  (∀ (ls : zL) (st : zS) (h : zH), zx 219 1568 ls st h = zgo 219 (zpure (.goto 700) 1571 2268 [] ls st h)) ∧
  (∀ (ls : zL) (st : zS) (h : zH), zx 219 1571 ls st h = zgo 219 (zpure (.aload_n 1) 1572 0 [] ls st h)) ∧
  (∀ (ls : zL) (st : zS) (h : zH), zx 219 1572 ls st h = zgo 219 (zpure (.aload 4) 1574 0 [] ls st h)) ∧
  (∀ (ls : zL) (st : zS) (h : zH), zx 219 1574 ls st h = zca 219 1574 1577 ls 208 3 0 (ztake 2 st) h) ∧
  (∀ (ls : zL) (st : zS) (h : zH), zx 219 1577 ls st h = zgo 219 (zpure (.istore 6) 1579 0 [] ls st h)) ∧
  (∀ (ls : zL) (st : zS) (h : zH), zx 219 1579 ls st h = zgo 219 (zpure (.aload_n 2) 1580 0 [] ls st h)) ∧
  (∀ (ls : zL) (st : zS) (h : zH), zx 219 1580 ls st h = zca 219 1580 1583 ls 155 5 7 (ztake 1 st) h) ∧
  (∀ (ls : zL) (st : zS) (h : zH), zx 219 1583 ls st h = zgo 219 (zpure (.fstore 7) 1585 0 [] ls st h)) ∧
  (∀ (ls : zL) (st : zS) (h : zH), zx 219 1585 ls st h = zgo 219 (zpure (.aload_n 2) 1586 0 [] ls st h)) ∧
  (∀ (ls : zL) (st : zS) (h : zH), zx 219 1586 ls st h = zca 219 1586 1589 ls 103 1 7 (ztake 1 st) h) ∧
  (∀ (ls : zL) (st : zS) (h : zH), zx 219 1589 ls st h = zgo 219 (zpure (.iload 6) 1591 0 [] ls st h)) ∧
  (∀ (ls : zL) (st : zS) (h : zH), zx 219 1591 ls st h = zgo 219 (zpure (.if_icmp .eq 5) 1594 1596 [] ls st h)) ∧
  (∀ (ls : zL) (st : zS) (h : zH), zx 219 1594 ls st h = zgo 219 (zpure (.iconst 0) 1595 0 [] ls st h)) ∧
  (∀ (ls : zL) (st : zS) (h : zH), zx 219 1595 ls st h = zret 1 st h) ∧
  (∀ (ls : zL) (st : zS) (h : zH), zx 219 1596 ls st h = zgo 219 (zpure (.iload 6) 1598 0 [] ls st h)) ∧
  (∀ (ls : zL) (st : zS) (h : zH), zx 219 1598 ls st h = zgo 219 (zpure (.ifCond .ne 36) 1601 1634 [] ls st h)) ∧
  (∀ (ls : zL) (st : zS) (h : zH), zx 219 1601 ls st h = zgo 219 (zpure (.aload 4) 1603 0 [] ls st h)) ∧
  (∀ (ls : zL) (st : zS) (h : zH), zx 219 1603 ls st h = zgo 219 (zpure (.iconst 0) 1604 0 [] ls st h)) ∧
  (∀ (ls : zL) (st : zS) (h : zH), zx 219 1604 ls st h = zgo 219 (zpure .daload 1605 0 [] ls st h)) ∧
  (∀ (ls : zL) (st : zS) (h : zH), zx 219 1605 ls st h = zgo 219 (zpure (.fload 7) 1607 0 [] ls st h)) ∧
  (∀ (ls : zL) (st : zS) (h : zH), zx 219 1607 ls st h = zgo 219 (zpure .f2d 1608 0 [] ls st h)) ∧
  (∀ (ls : zL) (st : zS) (h : zH), zx 219 1608 ls st h = zgo 219 (zpure (.dcmp .l) 1609 0 [] ls st h)) ∧
  (∀ (ls : zL) (st : zS) (h : zH), zx 219 1609 ls st h = zgo 219 (zpure (.ifCond .eq 25) 1612 1634 [] ls st h)) ∧
  (∀ (ls : zL) (st : zS) (h : zH), zx 219 1612 ls st h = zgo 219 (zpure (.aload 4) 1614 0 [] ls st h)) ∧
  (∀ (ls : zL) (st : zS) (h : zH), zx 219 1614 ls st h = zgo 219 (zpure (.iconst 0) 1615 0 [] ls st h)) ∧
  (∀ (ls : zL) (st : zS) (h : zH), zx 219 1615 ls st h = zgo 219 (zpure .daload 1616 0 [] ls st h)) ∧
  (∀ (ls : zL) (st : zS) (h : zH), zx 219 1616 ls st h = zgo 219 (zpure (.aload 4) 1618 0 [] ls st h)) ∧
  (∀ (ls : zL) (st : zS) (h : zH), zx 219 1618 ls st h = zgo 219 (zpure (.iconst 0) 1619 0 [] ls st h)) ∧
  (∀ (ls : zL) (st : zS) (h : zH), zx 219 1619 ls st h = zgo 219 (zpure .daload 1620 0 [] ls st h)) ∧
  (∀ (ls : zL) (st : zS) (h : zH), zx 219 1620 ls st h = zgo 219 (zpure (.dcmp .l) 1621 0 [] ls st h)) ∧
  (∀ (ls : zL) (st : zS) (h : zH), zx 219 1621 ls st h = zgo 219 (zpure (.ifCond .eq 11) 1624 1632 [] ls st h)) ∧
  (∀ (ls : zL) (st : zS) (h : zH), zx 219 1624 ls st h = zgo 219 (zpure (.fload 7) 1626 0 [] ls st h)) ∧
  (∀ (ls : zL) (st : zS) (h : zH), zx 219 1626 ls st h = zgo 219 (zpure (.fload 7) 1628 0 [] ls st h)) ∧
  (∀ (ls : zL) (st : zS) (h : zH), zx 219 1628 ls st h = zgo 219 (zpure (.fcmp .l) 1629 0 [] ls st h)) ∧
  (∀ (ls : zL) (st : zS) (h : zH), zx 219 1629 ls st h = zgo 219 (zpure (.ifCond .ne 5) 1632 1634 [] ls st h)) ∧
  (∀ (ls : zL) (st : zS) (h : zH), zx 219 1632 ls st h = zgo 219 (zpure (.iconst 0) 1633 0 [] ls st h)) ∧
  (∀ (ls : zL) (st : zS) (h : zH), zx 219 1633 ls st h = zret 1 st h) ∧
  (∀ (ls : zL) (st : zS) (h : zH), zx 219 1634 ls st h = zgo 219 (zpure (.goto 634) 1637 2268 [] ls st h)) ∧
  (∀ (ls : zL) (st : zS) (h : zH), zx 219 1637 ls st h = zgo 219 (zpure (.aload_n 1) 1638 0 [] ls st h)) :=
  ⟨zx_0 rfl, zx_0 rfl, zx_2c rfl, zx_0 rfl, zx_0 rfl, zx_2c rfl, zx_0 rfl, zx_0 rfl, zx_0 rfl, zx_1 rfl, zx_0 rfl, zx_0 rfl, zx_0 rfl, zx_0 rfl, zx_0 rfl, zx_0 rfl, zx_0 rfl, zx_0 rfl, zx_0 rfl, zx_0 rfl, zx_1 rfl, zx_0 rfl, zx_0 rfl, zx_0 rfl, zx_2c rfl, zx_0 rfl, zx_0 rfl, zx_2c rfl, zx_0 rfl, zx_0 rfl, zx_2c rfl, zx_0 rfl, zx_0 rfl, zx_0 rfl, zx_1 rfl, zx_0 rfl, zx_0 rfl, zx_0 rfl, zx_0 rfl, zx_0 rfl, zx_0 rfl, zx_0 rfl, zx_0 rfl, zx_0 rfl, zx_0 rfl, zx_0 rfl, zx_0 rfl, zx_0 rfl, zx_0 rfl, zx_0 rfl, zx_0 rfl, zx_0 rfl, zx_0 rfl, zx_0 rfl, zx_0 rfl, zx_0 rfl, zx_0 rfl, zx_1 rfl, zx_0 rfl, zx_0 rfl⟩
set_option maxRecDepth 4000 in
theorem z219_b16 :
  (∀ (ls : zL) (st : zS) (h : zH), zx 219 1638 ls st h = zgo 219 (zpure (.aload_n 3) 1639 0 [] ls st h)) ∧
  (∀ (ls : zL) (st : zS) (h : zH), zx 219 1639 ls st h = zca 219 1639 1642 ls 209 3 0 (ztake 2 st) h) ∧
  (∀ (ls : zL) (st : zS) (h : zH), zx 219 1642 ls st h = zgo 219 (zpure (.istore 6) 1644 0 [] ls st h)) ∧
  (∀ (ls : zL) (st : zS) (h : zH), zx 219 1644 ls st h = zgo 219 (zpure (.aload_n 2) 1645 0 [] ls st h)) ∧
  (∀ (ls : zL) (st : zS) (h : zH), zx 219 1645 ls st h = zca 219 1645 1648 ls 156 2 7 (ztake 1 st) h) ∧
  (∀ (ls : zL) (st : zS) (h : zH), zx 219 1648 ls st h = zgo 219 (zpure (.istore 7) 1650 0 [] ls st h)) ∧
  (∀ (ls : zL) (st : zS) (h : zH), zx 219 1650 ls st h = zgo 219 (zpure (.aload_n 2) 1651 0 [] ls st h)) ∧
  (∀ (ls : zL) (st : zS) (h : zH), zx 219 1651 ls st h = zca 219 1651 1654 ls 103 1 7 (ztake 1 st) h) ∧
  (∀ (ls : zL) (st : zS) (h : zH), zx 219 1654 ls st h = zgo 219 (zpure (.iload 6) 1656 0 [] ls st h)) ∧
  (∀ (ls : zL) (st : zS) (h : zH), zx 219 1656 ls st h = zgo 219 (zpure (.if_icmp .eq 5) 1659 1661 [] ls st h)) ∧
  (∀ (ls : zL) (st : zS) (h : zH), zx 219 1659 ls st h = zgo 219 (zpure (.iconst 0) 1660 0 [] ls st h)) ∧
  (∀ (ls : zL) (st : zS) (h : zH), zx 219 1660 ls st h = zret 1 st h) ∧
  (∀ (ls : zL) (st : zS) (h : zH), zx 219 1661 ls st h = zgo 219 (zpure (.iload 6) 1663 0 [] ls st h)) ∧
  (∀ (ls : zL) (st : zS) (h : zH), zx 219 1663 ls st h = zgo 219 (zpure (.ifCond .ne 15) 1666 1678 [] ls st h)) ∧
  (∀ (ls : zL) (st : zS) (h : zH), zx 219 1666 ls st h = zgo 219 (zpure (.aload_n 3) 1667 0 [] ls st h)) ∧
  (∀ (ls : zL) (st : zS) (h : zH), zx 219 1667 ls st h = zgo 219 (zpure (.iconst 0) 1668 0 [] ls st h)) ∧
  (∀ (ls : zL) (st : zS) (h : zH), zx 219 1668 ls st h = zgo 219 (zpure .laload 1669 0 [] ls st h)) ∧
  (∀ (ls : zL) (st : zS) (h : zH), zx 219 1669 ls st h = zgo 219 (zpure (.iload 7) 1671 0 [] ls st h)) ∧
  (∀ (ls : zL) (st : zS) (h : zH), zx 219 1671 ls st h = zgo 219 (zpure .i2l 1672 0 [] ls st h)) ∧
  (∀ (ls : zL) (st : zS) (h : zH), zx 219 1672 ls st h = zgo 219 (zpure .lcmp 1673 0 [] ls st h)) ∧
  (∀ (ls : zL) (st : zS) (h : zH), zx 219 1673 ls st h = zgo 219 (zpure (.ifCond .eq 5) 1676 1678 [] ls st h)) ∧
  (∀ (ls : zL) (st : zS) (h : zH), zx 219 1676 ls st h = zgo 219 (zpure (.iconst 0) 1677 0 [] ls st h)) ∧
  (∀ (ls : zL) (st : zS) (h : zH), zx 219 1677 ls st h = zret 1 st h) ∧
  (∀ (ls : zL) (st : zS) (h : zH), zx 219 1678 ls st h = zgo 219 (zpure (.goto 590) 1681 2268 [] ls st h)) ∧
  (∀ (ls : zL) (st : zS) (h : zH), zx 219 1681 ls st h = zgo 219 (zpure (.aload_n 1) 1682 0 [] ls st h)) ∧
  (∀ (ls : zL) (st : zS) (h : zH), zx 219 1682 ls st h = zgo 219 (zpure (.aload_n 0) 1683 0 [] ls st h)) ∧
  (∀ (ls : zL) (st : zS) (h : zH), zx 219 1683 ls st h = zgo 219 (zpure (.iload 5) 1685 0 [] ls st h)) ∧
  (∀ (ls : zL) (st : zS) (h : zH), zx 219 1685 ls st h = zgo 219 (zpure (.iconst 1) 1686 0 [] ls st h)) ∧
  (∀ (ls : zL) (st : zS) (h : zH), zx 219 1686 ls st h = zgo 219 (zpure .iadd 1687 0 [] ls st h)) ∧
  (∀ (ls : zL) (st : zS) (h : zH), zx 219 1687 ls st h = zgo 219 (zpure .iaload 1688 0 [] ls st h)) ∧
  (∀ (ls : zL) (st : zS) (h : zH), zx 219 1688 ls st h = zgo 219 (zpure (.aload_n 0) 1689 0 [] ls st h)) ∧
  (∀ (ls : zL) (st : zS) (h : zH), zx 219 1689 ls st h = zgo 219 (zpure (.iload 5) 1691 0 [] ls st h)) ∧
  (∀ (ls : zL) (st : zS) (h : zH), zx 219 1691 ls st h = zgo 219 (zpure (.iconst 2) 1692 0 [] ls st h)) ∧
  (∀ (ls : zL) (st : zS) (h : zH), zx 219 1692 ls st h = zgo 219 (zpure .iadd 1693 0 [] ls st h)) ∧
  (∀ (ls : zL) (st : zS) (h : zH), zx 219 1693 ls st h = zgo 219 (zpure .iaload 1694 0 [] ls st h)) ∧
  (∀ (ls : zL) (st : zS) (h : zH), zx 219 1694 ls st h = zgo 219 (zpure (.aload_n 3) 1695 0 [] ls st h)) ∧
  (∀ (ls : zL) (st : zS) (h : zH), zx 219 1695 ls st h = zca 219 1695 1698 ls 210 5 0 (ztake 4 st) h) ∧
  (∀ (ls : zL) (st : zS) (h : zH), zx 219 1698 ls st h = zgo 219 (zpure (.istore 6) 1700 0 [] ls st h)) ∧
  (∀ (ls : zL) (st : zS) (h : zH), zx 219 1700 ls st h = zgo 219 (zpure (.aload_n 2) 1701 0 [] ls st h)) ∧
  (∀ (ls : zL) (st : zS) (h : zH), zx 219 1701 ls st h = zgo 219 (zpure (.aload_n 0) 1702 0 [] ls st h)) ∧
  (∀ (ls : zL) (st : zS) (h : zH), zx 219 1702 ls st h = zgo 219 (zpure (.iload 5) 1704 0 [] ls st h)) ∧
  (∀ (ls : zL) (st : zS) (h : zH), zx 219 1704 ls st h = zgo 219 (zpure (.iconst 1) 1705 0 [] ls st h)) ∧
  (∀ (ls : zL) (st : zS) (h : zH), zx 219 1705 ls st h = zgo 219 (zpure .iadd 1706 0 [] ls st h)) ∧
  (∀ (ls : zL) (st : zS) (h : zH), zx 219 1706 ls st h = zgo 219 (zpure .iaload 1707 0 [] ls st h)) ∧
  (∀ (ls : zL) (st : zS) (h : zH), zx 219 1707 ls st h = zgo 219 (zpure (.aload_n 0) 1708 0 [] ls st h)) ∧
  (∀ (ls : zL) (st : zS) (h : zH), zx 219 1708 ls st h = zgo 219 (zpure (.iload 5) 1710 0 [] ls st h)) ∧
  (∀ (ls : zL) (st : zS) (h : zH), zx 219 1710 ls st h = zgo 219 (zpure (.iconst 2) 1711 0 [] ls st h)) ∧
  (∀ (ls : zL) (st : zS) (h : zH), zx 219 1711 ls st h = zgo 219 (zpure .iadd 1712 0 [] ls st h)) ∧
  (∀ (ls : zL) (st : zS) (h : zH), zx 219 1712 ls st h = zgo 219 (zpure .iaload 1713 0 [] ls st h)) ∧
  (∀ (ls : zL) (st : zS) (h : zH), zx 219 1713 ls st h = zca 219 1713 1716 ls 128 3 7 (ztake 3 st) h) ∧
  (∀ (ls : zL) (st : zS) (h : zH), zx 219 1716 ls st h = zgo 219 (zpure (.istore 7) 1718 0 [] ls st h)) ∧
  (∀ (ls : zL) (st : zS) (h : zH), zx 219 1718 ls st h = zgo 219 (zpure (.aload_n 2) 1719 0 [] ls st h)) ∧
  (∀ (ls : zL) (st : zS) (h : zH), zx 219 1719 ls st h = zca 219 1719 1722 ls 103 1 7 (ztake 1 st) h) ∧
  (∀ (ls : zL) (st : zS) (h : zH), zx 219 1722 ls st h = zgo 219 (zpure (.iload 6) 1724 0 [] ls st h)) ∧
  (∀ (ls : zL) (st : zS) (h : zH), zx 219 1724 ls st h = zgo 219 (zpure (.if_icmp .eq 5) 1727 1729 [] ls st h)) ∧
  (∀ (ls : zL) (st : zS) (h : zH), zx 219 1727 ls st h = zgo 219 (zpure (.iconst 0) 1728 0 [] ls st h)) ∧
  (∀ (ls : zL) (st : zS) (h : zH), zx 219 1728 ls st h = zret 1 st h) ∧
  (∀ (ls : zL) (st : zS) (h : zH), zx 219 1729 ls st h = zgo 219 (zpure (.iload 6) 1731 0 [] ls st h)) ∧
  (∀ (ls : zL) (st : zS) (h : zH), zx 219 1731 ls st h = zgo 219 (zpure (.ifCond .ne 15) 1734 1746 [] ls st h)) ∧
  (∀ (ls : zL) (st : zS) (h : zH), zx 219 1734 ls st h = zgo 219 (zpure (.aload_n 3) 1735 0 [] ls st h)) :=
  ⟨zx_0 rfl, zx_2c rfl, zx_0 rfl, zx_0 rfl, zx_2c rfl, zx_0 rfl, zx_0 rfl, zx_2c rfl, zx_0 rfl, zx_0 rfl, zx_0 rfl, zx_1 rfl, zx_0 rfl, zx_0 rfl, zx_0 rfl, zx_0 rfl, zx_0 rfl, zx_0 rfl, zx_0 rfl, zx_0 rfl, zx_0 rfl, zx_0 rfl, zx_1 rfl, zx_0 rfl, zx_0 rfl, zx_0 rfl, zx_0 rfl, zx_0 rfl, zx_0 rfl, zx_0 rfl, zx_0 rfl, zx_0 rfl, zx_0 rfl, zx_0 rfl, zx_0 rfl, zx_0 rfl, zx_2c rfl, zx_0 rfl, zx_0 rfl, zx_0 rfl, zx_0 rfl, zx_0 rfl, zx_0 rfl, zx_0 rfl, zx_0 rfl, zx_0 rfl, zx_0 rfl, zx_0 rfl, zx_0 rfl, zx_2c rfl, zx_0 rfl, zx_0 rfl, zx_2c rfl, zx_0 rfl, zx_0 rfl, zx_0 rfl, zx_1 rfl, zx_0 rfl, zx_0 rfl, zx_0 rfl⟩
set_option maxRecDepth 4000 in
theorem z219_b17 :
  (∀ (ls : zL) (st : zS) (h : zH), zx 219 1735 ls st h = zgo 219 (zpure (.iconst 0) 1736 0 [] ls st h)) ∧
  (∀ (ls : zL) (st : zS) (h : zH), zx 219 1736 ls st h = zgo 219 (zpure .laload 1737 0 [] ls st h)) ∧
  (∀ (ls : zL) (st : zS) (h : zH), zx 219 1737 ls st h = zgo 219 (zpure (.iload 7) 1739 0 [] ls st h)) ∧
  (∀ (ls : zL) (st : zS) (h : zH), zx 219 1739 ls st h = zgo 219 (zpure .i2l 1740 0 [] ls st h)) ∧
  (∀ (ls : zL) (st : zS) (h : zH), zx 219 1740 ls st h = zgo 219 (zpure .lcmp 1741 0 [] ls st h)) ∧
  (∀ (ls : zL) (st : zS) (h : zH), zx 219 1741 ls st h = zgo 219 (zpure (.ifCond .eq 5) 1744 1746 [] ls st h)) ∧
  (∀ (ls : zL) (st : zS) (h : zH), zx 219 1744 ls st h = zgo 219 (zpure (.iconst 0) 1745 0 [] ls st h)) ∧
  (∀ (ls : zL) (st : zS) (h : zH), zx 219 1745 ls st h = zret 1 st h) ∧
  (∀ (ls : zL) (st : zS) (h : zH), zx 219 1746 ls st h = zgo 219 (zpure (.goto 522) 1749 2268 [] ls st h)) ∧
  (∀ (ls : zL) (st : zS) (h : zH), zx 219 1749 ls st h = zgo 219 (zpure (.aload_n 1) 1750 0 [] ls st h)) ∧
  (∀ (ls : zL) (st : zS) (h : zH), zx 219 1750 ls st h = zgo 219 (zpure (.aload_n 0) 1751 0 [] ls st h)) ∧
  (∀ (ls : zL) (st : zS) (h : zH), zx 219 1751 ls st h = zgo 219 (zpure (.iload 5) 1753 0 [] ls st h)) ∧
  (∀ (ls : zL) (st : zS) (h : zH), zx 219 1753 ls st h = zgo 219 (zpure (.iconst 1) 1754 0 [] ls st h)) ∧
  (∀ (ls : zL) (st : zS) (h : zH), zx 219 1754 ls st h = zgo 219 (zpure .iadd 1755 0 [] ls st h)) ∧
  (∀ (ls : zL) (st : zS) (h : zH), zx 219 1755 ls st h = zgo 219 (zpure .iaload 1756 0 [] ls st h)) ∧
  (∀ (ls : zL) (st : zS) (h : zH), zx 219 1756 ls st h = zgo 219 (zpure (.aload_n 0) 1757 0 [] ls st h)) ∧
  (∀ (ls : zL) (st : zS) (h : zH), zx 219 1757 ls st h = zgo 219 (zpure (.iload 5) 1759 0 [] ls st h)) ∧
  (∀ (ls : zL) (st : zS) (h : zH), zx 219 1759 ls st h = zgo 219 (zpure (.iconst 2) 1760 0 [] ls st h)) ∧
  (∀ (ls : zL) (st : zS) (h : zH), zx 219 1760 ls st h = zgo 219 (zpure .iadd 1761 0 [] ls st h)) ∧
  (∀ (ls : zL) (st : zS) (h : zH), zx 219 1761 ls st h = zgo 219 (zpure .iaload 1762 0 [] ls st h)) ∧
  (∀ (ls : zL) (st : zS) (h : zH), zx 219 1762 ls st h = zgo 219 (zpure (.aload_n 3) 1763 0 [] ls st h)) ∧
  (∀ (ls : zL) (st : zS) (h : zH), zx 219 1763 ls st h = zca 219 1763 1766 ls 211 5 0 (ztake 4 st) h) ∧
  (∀ (ls : zL) (st : zS) (h : zH), zx 219 1766 ls st h = zgo 219 (zpure (.istore 6) 1768 0 [] ls st h)) ∧
  (∀ (ls : zL) (st : zS) (h : zH), zx 219 1768 ls st h = zgo 219 (zpure (.aload_n 2) 1769 0 [] ls st h)) ∧
  (∀ (ls : zL) (st : zS) (h : zH), zx 219 1769 ls st h = zgo 219 (zpure (.aload_n 0) 1770 0 [] ls st h)) ∧
  (∀ (ls : zL) (st : zS) (h : zH), zx 219 1770 ls st h = zgo 219 (zpure (.iload 5) 1772 0 [] ls st h)) ∧
  (∀ (ls : zL) (st : zS) (h : zH), zx 219 1772 ls st h = zgo 219 (zpure (.iconst 1) 1773 0 [] ls st h)) ∧
  (∀ (ls : zL) (st : zS) (h : zH), zx 219 1773 ls st h = zgo 219 (zpure .iadd 1774 0 [] ls st h)) ∧
  (∀ (ls : zL) (st : zS) (h : zH), zx 219 1774 ls st h = zgo 219 (zpure .iaload 1775 0 [] ls st h)) ∧
  (∀ (ls : zL) (st : zS) (h : zH), zx 219 1775 ls st h = zgo 219 (zpure (.aload_n 0) 1776 0 [] ls st h)) ∧
  (∀ (ls : zL) (st : zS) (h : zH), zx 219 1776 ls st h = zgo 219 (zpure (.iload 5) 1778 0 [] ls st h)) ∧
  (∀ (ls : zL) (st : zS) (h : zH), zx 219 1778 ls st h = zgo 219 (zpure (.iconst 2) 1779 0 [] ls st h)) ∧
  (∀ (ls : zL) (st : zS) (h : zH), zx 219 1779 ls st h = zgo 219 (zpure .iadd 1780 0 [] ls st h)) ∧
  (∀ (ls : zL) (st : zS) (h : zH), zx 219 1780 ls st h = zgo 219 (zpure .iaload 1781 0 [] ls st h)) ∧
  (∀ (ls : zL) (st : zS) (h : zH), zx 219 1781 ls st h = zca 219 1781 1784 ls 129 3 7 (ztake 3 st) h) ∧
  (∀ (ls : zL) (st : zS) (h : zH), zx 219 1784 ls st h = zgo 219 (zpure (.istore 7) 1786 0 [] ls st h)) ∧
  (∀ (ls : zL) (st : zS) (h : zH), zx 219 1786 ls st h = zgo 219 (zpure (.aload_n 2) 1787 0 [] ls st h)) ∧
  (∀ (ls : zL) (st : zS) (h : zH), zx 219 1787 ls st h = zca 219 1787 1790 ls 103 1 7 (ztake 1 st) h) ∧
  (∀ (ls : zL) (st : zS) (h : zH), zx 219 1790 ls st h = zgo 219 (zpure (.iload 6) 1792 0 [] ls st h)) ∧
  (∀ (ls : zL) (st : zS) (h : zH), zx 219 1792 ls st h = zgo 219 (zpure (.if_icmp .eq 5) 1795 1797 [] ls st h)) ∧
  (∀ (ls : zL) (st : zS) (h : zH), zx 219 1795 ls st h = zgo 219 (zpure (.iconst 0) 1796 0 [] ls st h)) ∧
  (∀ (ls : zL) (st : zS) (h : zH), zx 219 1796 ls st h = zret 1 st h) ∧
  (∀ (ls : zL) (st : zS) (h : zH), zx 219 1797 ls st h = zgo 219 (zpure (.iload 6) 1799 0 [] ls st h)) ∧
  (∀ (ls : zL) (st : zS) (h : zH), zx 219 1799 ls st h = zgo 219 (zpure (.ifCond .ne 15) 1802 1814 [] ls st h)) ∧
  (∀ (ls : zL) (st : zS) (h : zH), zx 219 1802 ls st h = zgo 219 (zpure (.aload_n 3) 1803 0 [] ls st h)) ∧
  (∀ (ls : zL) (st : zS) (h : zH), zx 219 1803 ls st h = zgo 219 (zpure (.iconst 0) 1804 0 [] ls st h)) ∧
  (∀ (ls : zL) (st : zS) (h : zH), zx 219 1804 ls st h = zgo 219 (zpure .laload 1805 0 [] ls st h)) ∧
  (∀ (ls : zL) (st : zS) (h : zH), zx 219 1805 ls st h = zgo 219 (zpure (.iload 7) 1807 0 [] ls st h)) ∧
  (∀ (ls : zL) (st : zS) (h : zH), zx 219 1807 ls st h = zgo 219 (zpure .i2l 1808 0 [] ls st h)) ∧
  (∀ (ls : zL) (st : zS) (h : zH), zx 219 1808 ls st h = zgo 219 (zpure .lcmp 1809 0 [] ls st h)) ∧
  (∀ (ls : zL) (st : zS) (h : zH), zx 219 1809 ls st h = zgo 219 (zpure (.ifCond .eq 5) 1812 1814 [] ls st h)) ∧
  (∀ (ls : zL) (st : zS) (h : zH), zx 219 1812 ls st h = zgo 219 (zpure (.iconst 0) 1813 0 [] ls st h)) ∧
  (∀ (ls : zL) (st : zS) (h : zH), zx 219 1813 ls st h = zret 1 st h) ∧
  (∀ (ls : zL) (st : zS) (h : zH), zx 219 1814 ls st h = zgo 219 (zpure (.goto 454) 1817 2268 [] ls st h)) ∧
  (∀ (ls : zL) (st : zS) (h : zH), zx 219 1817 ls st h = zgo 219 (zpure (.aload_n 1) 1818 0 [] ls st h)) ∧
  (∀ (ls : zL) (st : zS) (h : zH), zx 219 1818 ls st h = zgo 219 (zpure (.aload_n 0) 1819 0 [] ls st h)) ∧
  (∀ (ls : zL) (st : zS) (h : zH), zx 219 1819 ls st h = zgo 219 (zpure (.iload 5) 1821 0 [] ls st h)) ∧
  (∀ (ls : zL) (st : zS) (h : zH), zx 219 1821 ls st h = zgo 219 (zpure (.iconst 1) 1822 0 [] ls st h)) ∧
  (∀ (ls : zL) (st : zS) (h : zH), zx 219 1822 ls st h = zgo 219 (zpure .iadd 1823 0 [] ls st h)) ∧
  (∀ (ls : zL) (st : zS) (h : zH), zx 219 1823 ls st h = zgo 219 (zpure .iaload 1824 0 [] ls st h)) :=
  ⟨zx_0 rfl, zx_0 rfl, zx_0 rfl, zx_0 rfl, zx_0 rfl, zx_0 rfl, zx_0 rfl, zx_1 rfl, zx_0 rfl, zx_0 rfl, zx_0 rfl, zx_0 rfl, zx_0 rfl, zx_0 rfl, zx_0 rfl, zx_0 rfl, zx_0 rfl, zx_0 rfl, zx_0 rfl, zx_0 rfl, zx_0 rfl, zx_2c rfl, zx_0 rfl, zx_0 rfl, zx_0 rfl, zx_0 rfl, zx_0 rfl, zx_0 rfl, zx_0 rfl, zx_0 rfl, zx_0 rfl, zx_0 rfl, zx_0 rfl, zx_0 rfl, zx_2c rfl, zx_0 rfl, zx_0 rfl, zx_2c rfl, zx_0 rfl, zx_0 rfl, zx_0 rfl, zx_1 rfl, zx_0 rfl, zx_0 rfl, zx_0 rfl, zx_0 rfl, zx_0 rfl, zx_0 rfl, zx_0 rfl, zx_0 rfl, zx_0 rfl, zx_0 rfl, zx_1 rfl, zx_0 rfl, zx_0 rfl, zx_0 rfl, zx_0 rfl, zx_0 rfl, zx_0 rfl, zx_0 rfl⟩
set_option maxRecDepth 4000 in
theorem z219_b18 :
  (∀ (ls : zL) (st : zS) (h : zH), zx 219 1824 ls st h = zgo 219 (zpure (.aload_n 0) 1825 0 [] ls st h)) ∧
  (∀ (ls : zL) (st : zS) (h : zH), zx 219 1825 ls st h = zgo 219 (zpure (.iload 5) 1827 0 [] ls st h)) ∧
  (∀ (ls : zL) (st : zS) (h : zH), zx 219 1827 ls st h = zgo 219 (zpure (.iconst 2) 1828 0 [] ls st h)) ∧
  (∀ (ls : zL) (st : zS) (h : zH), zx 219 1828 ls st h = zgo 219 (zpure .iadd 1829 0 [] ls st h)) ∧
  (∀ (ls : zL) (st : zS) (h : zH), zx 219 1829 ls st h = zgo 219 (zpure .iaload 1830 0 [] ls st h)) ∧
  (∀ (ls : zL) (st : zS) (h : zH), zx 219 1830 ls st h = zgo 219 (zpure (.aload_n 0) 1831 0 [] ls st h)) ∧
  (∀ (ls : zL) (st : zS) (h : zH), zx 219 1831 ls st h = zgo 219 (zpure (.iload 5) 1833 0 [] ls st h)) ∧
  (∀ (ls : zL) (st : zS) (h : zH), zx 219 1833 ls st h = zgo 219 (zpure (.iconst 3) 1834 0 [] ls st h)) ∧
  (∀ (ls : zL) (st : zS) (h : zH), zx 219 1834 ls st h = zgo 219 (zpure .iadd 1835 0 [] ls st h)) ∧
  (∀ (ls : zL) (st : zS) (h : zH), zx 219 1835 ls st h = zgo 219 (zpure .iaload 1836 0 [] ls st h)) ∧
  (∀ (ls : zL) (st : zS) (h : zH), zx 219 1836 ls st h = zgo 219 (zpure (.aload_n 3) 1837 0 [] ls st h)) ∧
  (∀ (ls : zL) (st : zS) (h : zH), zx 219 1837 ls st h = zca 219 1837 1840 ls 212 6 0 (ztake 5 st) h) ∧
  (∀ (ls : zL) (st : zS) (h : zH), zx 219 1840 ls st h = zgo 219 (zpure (.istore 6) 1842 0 [] ls st h)) ∧
  (∀ (ls : zL) (st : zS) (h : zH), zx 219 1842 ls st h = zgo 219 (zpure (.aload_n 2) 1843 0 [] ls st h)) ∧
  (∀ (ls : zL) (st : zS) (h : zH), zx 219 1843 ls st h = zgo 219 (zpure (.aload_n 0) 1844 0 [] ls st h)) ∧
  (∀ (ls : zL) (st : zS) (h : zH), zx 219 1844 ls st h = zgo 219 (zpure (.iload 5) 1846 0 [] ls st h)) ∧
  (∀ (ls : zL) (st : zS) (h : zH), zx 219 1846 ls st h = zgo 219 (zpure (.iconst 1) 1847 0 [] ls st h)) ∧
  (∀ (ls : zL) (st : zS) (h : zH), zx 219 1847 ls st h = zgo 219 (zpure .iadd 1848 0 [] ls st h)) ∧
  (∀ (ls : zL) (st : zS) (h : zH), zx 219 1848 ls st h = zgo 219 (zpure .iaload 1849 0 [] ls st h)) ∧
  (∀ (ls : zL) (st : zS) (h : zH), zx 219 1849 ls st h = zgo 219 (zpure (.aload_n 0) 1850 0 [] ls st h)) ∧
  (∀ (ls : zL) (st : zS) (h : zH), zx 219 1850 ls st h = zgo 219 (zpure (.iload 5) 1852 0 [] ls st h)) ∧
  (∀ (ls : zL) (st : zS) (h : zH), zx 219 1852 ls st h = zgo 219 (zpure (.iconst 2) 1853 0 [] ls st h)) ∧
  (∀ (ls : zL) (st : zS) (h : zH), zx 219 1853 ls st h = zgo 219 (zpure .iadd 1854 0 [] ls st h)) ∧
  (∀ (ls : zL) (st : zS) (h : zH), zx 219 1854 ls st h = zgo 219 (zpure .iaload 1855 0 [] ls st h)) ∧
  (∀ (ls : zL) (st : zS) (h : zH), zx 219 1855 ls st h = zgo 219 (zpure (.aload_n 0) 1856 0 [] ls st h)) ∧
  (∀ (ls : zL) (st : zS) (h : zH), zx 219 1856 ls st h = zgo 219 (zpure (.iload 5) 1858 0 [] ls st h)) ∧
  (∀ (ls : zL) (st : zS) (h : zH), zx 219 1858 ls st h = zgo 219 (zpure (.iconst 3) 1859 0 [] ls st h)) ∧
  (∀ (ls : zL) (st : zS) (h : zH), zx 219 1859 ls st h = zgo 219 (zpure .iadd 1860 0 [] ls st h)) ∧
  (∀ (ls : zL) (st : zS) (h : zH), zx 219 1860 ls st h = zgo 219 (zpure .iaload 1861 0 [] ls st h)) ∧
  (∀ (ls : zL) (st : zS) (h : zH), zx 219 1861 ls st h = zca 219 1861 1864 ls 130 6 7 (ztake 4 st) h) ∧
  (∀ (ls : zL) (st : zS) (h : zH), zx 219 1864 ls st h = zgo 219 (zpure (.istore 7) 1866 0 [] ls st h)) ∧
  (∀ (ls : zL) (st : zS) (h : zH), zx 219 1866 ls st h = zgo 219 (zpure (.aload_n 2) 1867 0 [] ls st h)) ∧
  (∀ (ls : zL) (st : zS) (h : zH), zx 219 1867 ls st h = zca 219 1867 1870 ls 103 1 7 (ztake 1 st) h) ∧
  (∀ (ls : zL) (st : zS) (h : zH), zx 219 1870 ls st h = zgo 219 (zpure (.iload 6) 1872 0 [] ls st h)) ∧
  (∀ (ls : zL) (st : zS) (h : zH), zx 219 1872 ls st h = zgo 219 (zpure (.if_icmp .eq 5) 1875 1877 [] ls st h)) ∧
  (∀ (ls : zL) (st : zS) (h : zH), zx 219 1875 ls st h = zgo 219 (zpure (.iconst 0) 1876 0 [] ls st h)) ∧
  (∀ (ls : zL) (st : zS) (h : zH), zx 219 1876 ls st h = zret 1 st h) ∧
  (∀ (ls : zL) (st : zS) (h : zH), zx 219 1877 ls st h = zgo 219 (zpure (.iload 6) 1879 0 [] ls st h)) ∧
  (∀ (ls : zL) (st : zS) (h : zH), zx 219 1879 ls st h = zgo 219 (zpure (.ifCond .ne 15) 1882 1894 [] ls st h)) ∧
  (∀ (ls : zL) (st : zS) (h : zH), zx 219 1882 ls st h = zgo 219 (zpure (.aload_n 3) 1883 0 [] ls st h)) ∧
  (∀ (ls : zL) (st : zS) (h : zH), zx 219 1883 ls st h = zgo 219 (zpure (.iconst 0) 1884 0 [] ls st h)) ∧
  (∀ (ls : zL) (st : zS) (h : zH), zx 219 1884 ls st h = zgo 219 (zpure .laload 1885 0 [] ls st h)) ∧
  (∀ (ls : zL) (st : zS) (h : zH), zx 219 1885 ls st h = zgo 219 (zpure (.iload 7) 1887 0 [] ls st h)) ∧
  (∀ (ls : zL) (st : zS) (h : zH), zx 219 1887 ls st h = zgo 219 (zpure .i2l 1888 0 [] ls st h)) ∧
  (∀ (ls : zL) (st : zS) (h : zH), zx 219 1888 ls st h = zgo 219 (zpure .lcmp 1889 0 [] ls st h)) ∧
  (∀ (ls : zL) (st : zS) (h : zH), zx 219 1889 ls st h = zgo 219 (zpure (.ifCond .eq 5) 1892 1894 [] ls st h)) ∧
  (∀ (ls : zL) (st : zS) (h : zH), zx 219 1892 ls st h = zgo 219 (zpure (.iconst 0) 1893 0 [] ls st h)) ∧
  (∀ (ls : zL) (st : zS) (h : zH), zx 219 1893 ls st h = zret 1 st h) ∧
  (∀ (ls : zL) (st : zS) (h : zH), zx 219 1894 ls st h = zgo 219 (zpure (.goto 374) 1897 2268 [] ls st h)) ∧
  (∀ (ls : zL) (st : zS) (h : zH), zx 219 1897 ls st h = zgo 219 (zpure (.aload_n 1) 1898 0 [] ls st h)) ∧
  (∀ (ls : zL) (st : zS) (h : zH), zx 219 1898 ls st h = zgo 219 (zpure (.aload_n 0) 1899 0 [] ls st h)) ∧
  (∀ (ls : zL) (st : zS) (h : zH), zx 219 1899 ls st h = zgo 219 (zpure (.iload 5) 1901 0 [] ls st h)) ∧
  (∀ (ls : zL) (st : zS) (h : zH), zx 219 1901 ls st h = zgo 219 (zpure (.iconst 1) 1902 0 [] ls st h)) ∧
  (∀ (ls : zL) (st : zS) (h : zH), zx 219 1902 ls st h = zgo 219 (zpure .iadd 1903 0 [] ls st h)) ∧
  (∀ (ls : zL) (st : zS) (h : zH), zx 219 1903 ls st h = zgo 219 (zpure .iaload 1904 0 [] ls st h)) ∧
  (∀ (ls : zL) (st : zS) (h : zH), zx 219 1904 ls st h = zgo 219 (zpure (.aload_n 0) 1905 0 [] ls st h)) ∧
  (∀ (ls : zL) (st : zS) (h : zH), zx 219 1905 ls st h = zgo 219 (zpure (.iload 5) 1907 0 [] ls st h)) ∧
  (∀ (ls : zL) (st : zS) (h : zH), zx 219 1907 ls st h = zgo 219 (zpure (.iconst 2) 1908 0 [] ls st h)) ∧
  (∀ (ls : zL) (st : zS) (h : zH), zx 219 1908 ls st h = zgo 219 (zpure .iadd 1909 0 [] ls st h)) ∧
  (∀ (ls : zL) (st : zS) (h : zH), zx 219 1909 ls st h = zgo 219 (zpure .iaload 1910 0 [] ls st h)) :=
  ⟨zx_0 rfl, zx_0 rfl, zx_0 rfl, zx_0 rfl, zx_0 rfl, zx_0 rfl, zx_0 rfl, zx_0 rfl, zx_0 rfl, zx_0 rfl, zx_0 rfl, zx_2c rfl, zx_0 rfl, zx_0 rfl, zx_0 rfl, zx_0 rfl, zx_0 rfl, zx_0 rfl, zx_0 rfl, zx_0 rfl, zx_0 rfl, zx_0 rfl, zx_0 rfl, zx_0 rfl, zx_0 rfl, zx_0 rfl, zx_0 rfl, zx_0 rfl, zx_0 rfl, zx_2c rfl, zx_0 rfl, zx_0 rfl, zx_2c rfl, zx_0 rfl, zx_0 rfl, zx_0 rfl, zx_1 rfl, zx_0 rfl, zx_0 rfl, zx_0 rfl, zx_0 rfl, zx_0 rfl, zx_0 rfl, zx_0 rfl, zx_0 rfl, zx_0 rfl, zx_0 rfl, zx_1 rfl, zx_0 rfl, zx_0 rfl, zx_0 rfl, zx_0 rfl, zx_0 rfl, zx_0 rfl, zx_0 rfl, zx_0 rfl, zx_0 rfl, zx_0 rfl, zx_0 rfl, zx_0 rfl⟩
set_option maxRecDepth 4000 in
theorem z219_b19 :
  (∀ (ls : zL) (st : zS) (h : zH), zx 219 1910 ls st h = zgo 219 (zpure (.aload 4) 1912 0 [] ls st h)) ∧
  (∀ (ls : zL) (st : zS) (h : zH), zx 219 1912 ls st h = zca 219 1912 1915 ls 213 5 0 (ztake 4 st) h) ∧
  (∀ (ls : zL) (st : zS) (h : zH), zx 219 1915 ls st h = zgo 219 (zpure (.istore 6) 1917 0 [] ls st h)) ∧
  (∀ (ls : zL) (st : zS) (h : zH), zx 219 1917 ls st h = zgo 219 (zpure (.aload_n 2) 1918 0 [] ls st h)) ∧
  (∀ (ls : zL) (st : zS) (h : zH), zx 219 1918 ls st h = zgo 219 (zpure (.aload_n 0) 1919 0 [] ls st h)) ∧
  (∀ (ls : zL) (st : zS) (h : zH), zx 219 1919 ls st h = zgo 219 (zpure (.iload 5) 1921 0 [] ls st h)) ∧
  (∀ (ls : zL) (st : zS) (h : zH), zx 219 1921 ls st h = zgo 219 (zpure (.iconst 1) 1922 0 [] ls st h)) ∧
  (∀ (ls : zL) (st : zS) (h : zH), zx 219 1922 ls st h = zgo 219 (zpure .iadd 1923 0 [] ls st h)) ∧
  (∀ (ls : zL) (st : zS) (h : zH), zx 219 1923 ls st h = zgo 219 (zpure .iaload 1924 0 [] ls st h)) ∧
  (∀ (ls : zL) (st : zS) (h : zH), zx 219 1924 ls st h = zgo 219 (zpure (.aload_n 0) 1925 0 [] ls st h)) ∧
  (∀ (ls : zL) (st : zS) (h : zH), zx 219 1925 ls st h = zgo 219 (zpure (.iload 5) 1927 0 [] ls st h)) ∧
  (∀ (ls : zL) (st : zS) (h : zH), zx 219 1927 ls st h = zgo 219 (zpure (.iconst 2) 1928 0 [] ls st h)) ∧
  (∀ (ls : zL) (st : zS) (h : zH), zx 219 1928 ls st h = zgo 219 (zpure .iadd 1929 0 [] ls st h)) ∧
  (∀ (ls : zL) (st : zS) (h : zH), zx 219 1929 ls st h = zgo 219 (zpure .iaload 1930 0 [] ls st h)) ∧
  (∀ (ls : zL) (st : zS) (h : zH), zx 219 1930 ls st h = zca 219 1930 1933 ls 131 3 7 (ztake 3 st) h) ∧
  (∀ (ls : zL) (st : zS) (h : zH), zx 219 1933 ls st h = zgo 219 (zpure (.fstore 7) 1935 0 [] ls st h)) ∧
  (∀ (ls : zL) (st : zS) (h : zH), zx 219 1935 ls st h = zgo 219 (zpure (.aload_n 2) 1936 0 [] ls st h)) ∧
  (∀ (ls : zL) (st : zS) (h : zH), zx 219 1936 ls st h = zca 219 1936 1939 ls 103 1 7 (ztake 1 st) h) ∧
  (∀ (ls : zL) (st : zS) (h : zH), zx 219 1939 ls st h = zgo 219 (zpure (.iload 6) 1941 0 [] ls st h)) ∧
  (∀ (ls : zL) (st : zS) (h : zH), zx 219 1941 ls st h = zgo 219 (zpure (.if_icmp .eq 5) 1944 1946 [] ls st h)) ∧
  (∀ (ls : zL) (st : zS) (h : zH), zx 219 1944 ls st h = zgo 219 (zpure (.iconst 0) 1945 0 [] ls st h)) ∧
  (∀ (ls : zL) (st : zS) (h : zH), zx 219 1945 ls st h = zret 1 st h) ∧
  (∀ (ls : zL) (st : zS) (h : zH), zx 219 1946 ls st h = zgo 219 (zpure (.iload 6) 1948 0 [] ls st h)) ∧
  (∀ (ls : zL) (st : zS) (h : zH), zx 219 1948 ls st h = zgo 219 (zpure (.ifCond .ne 36) 1951 1984 [] ls st h)) ∧
  (∀ (ls : zL) (st : zS) (h : zH), zx 219 1951 ls st h = zgo 219 (zpure (.aload 4) 1953 0 [] ls st h)) ∧
  (∀ (ls : zL) (st : zS) (h : zH), zx 219 1953 ls st h = zgo 219 (zpure (.iconst 0) 1954 0 [] ls st h)) ∧
  (∀ (ls : zL) (st : zS) (h : zH), zx 219 1954 ls st h = zgo 219 (zpure .daload 1955 0 [] ls st h)) ∧
  (∀ (ls : zL) (st : zS) (h : zH), zx 219 1955 ls st h = zgo 219 (zpure (.fload 7) 1957 0 [] ls st h)) ∧
  (∀ (ls : zL) (st : zS) (h : zH), zx 219 1957 ls st h = zgo 219 (zpure .f2d 1958 0 [] ls st h)) ∧
  (∀ (ls : zL) (st : zS) (h : zH), zx 219 1958 ls st h = zgo 219 (zpure (.dcmp .l) 1959 0 [] ls st h)) ∧
  (∀ (ls : zL) (st : zS) (h : zH), zx 219 1959 ls st h = zgo 219 (zpure (.ifCond .eq 25) 1962 1984 [] ls st h)) ∧
  (∀ (ls : zL) (st : zS) (h : zH), zx 219 1962 ls st h = zgo 219 (zpure (.aload 4) 1964 0 [] ls st h)) ∧
  (∀ (ls : zL) (st : zS) (h : zH), zx 219 1964 ls st h = zgo 219 (zpure (.iconst 0) 1965 0 [] ls st h)) ∧
  (∀ (ls : zL) (st : zS) (h : zH), zx 219 1965 ls st h = zgo 219 (zpure .daload 1966 0 [] ls st h)) ∧
  (∀ (ls : zL) (st : zS) (h : zH), zx 219 1966 ls st h = zgo 219 (zpure (.aload 4) 1968 0 [] ls st h)) ∧
  (∀ (ls : zL) (st : zS) (h : zH), zx 219 1968 ls st h = zgo 219 (zpure (.iconst 0) 1969 0 [] ls st h)) ∧
  (∀ (ls : zL) (st : zS) (h : zH), zx 219 1969 ls st h = zgo 219 (zpure .daload 1970 0 [] ls st h)) ∧
  (∀ (ls : zL) (st : zS) (h : zH), zx 219 1970 ls st h = zgo 219 (zpure (.dcmp .l) 1971 0 [] ls st h)) ∧
  (∀ (ls : zL) (st : zS) (h : zH), zx 219 1971 ls st h = zgo 219 (zpure (.ifCond .eq 11) 1974 1982 [] ls st h)) ∧
  (∀ (ls : zL) (st : zS) (h : zH), zx 219 1974 ls st h = zgo 219 (zpure (.fload 7) 1976 0 [] ls st h)) ∧
  (∀ (ls : zL) (st : zS) (h : zH), zx 219 1976 ls st h = zgo 219 (zpure (.fload 7) 1978 0 [] ls st h)) ∧
  (∀ (ls : zL) (st : zS) (h : zH), zx 219 1978 ls st h = zgo 219 (zpure (.fcmp .l) 1979 0 [] ls st h)) ∧
  (∀ (ls : zL) (st : zS) (h : zH), zx 219 1979 ls st h = zgo 219 (zpure (.ifCond .ne 5) 1982 1984 [] ls st h)) ∧
  (∀ (ls : zL) (st : zS) (h : zH), zx 219 1982 ls st h = zgo 219 (zpure (.iconst 0) 1983 0 [] ls st h)) ∧
  (∀ (ls : zL) (st : zS) (h : zH), zx 219 1983 ls st h = zret 1 st h) ∧
  (∀ (ls : zL) (st : zS) (h : zH), zx 219 1984 ls st h = zgo 219 (zpure (.goto 284) 1987 2268 [] ls st h)) ∧
  (∀ (ls : zL) (st : zS) (h : zH), zx 219 1987 ls st h = zgo 219 (zpure (.aload_n 1) 1988 0 [] ls st h)) ∧
  (∀ (ls : zL) (st : zS) (h : zH), zx 219 1988 ls st h = zgo 219 (zpure (.aload_n 3) 1989 0 [] ls st h)) ∧
  (∀ (ls : zL) (st : zS) (h : zH), zx 219 1989 ls st h = zca 219 1989 1992 ls 214 3 0 (ztake 2 st) h) ∧
  (∀ (ls : zL) (st : zS) (h : zH), zx 219 1992 ls st h = zgo 219 (zpure (.istore 6) 1994 0 [] ls st h)) ∧
  (∀ (ls : zL) (st : zS) (h : zH), zx 219 1994 ls st h = zgo 219 (zpure (.aload_n 2) 1995 0 [] ls st h)) ∧
  (∀ (ls : zL) (st : zS) (h : zH), zx 219 1995 ls st h = zca 219 1995 1998 ls 157 2 7 (ztake 1 st) h) ∧
  (∀ (ls : zL) (st : zS) (h : zH), zx 219 1998 ls st h = zgo 219 (zpure (.istore 7) 2000 0 [] ls st h)) ∧
  (∀ (ls : zL) (st : zS) (h : zH), zx 219 2000 ls st h = zgo 219 (zpure (.aload_n 2) 2001 0 [] ls st h)) ∧
  (∀ (ls : zL) (st : zS) (h : zH), zx 219 2001 ls st h = zca 219 2001 2004 ls 103 1 7 (ztake 1 st) h) ∧
  (∀ (ls : zL) (st : zS) (h : zH), zx 219 2004 ls st h = zgo 219 (zpure (.iload 6) 2006 0 [] ls st h)) ∧
  (∀ (ls : zL) (st : zS) (h : zH), zx 219 2006 ls st h = zgo 219 (zpure (.if_icmp .eq 5) 2009 2011 [] ls st h)) ∧
  (∀ (ls : zL) (st : zS) (h : zH), zx 219 2009 ls st h = zgo 219 (zpure (.iconst 0) 2010 0 [] ls st h)) ∧
  (∀ (ls : zL) (st : zS) (h : zH), zx 219 2010 ls st h = zret 1 st h) ∧
  (∀ (ls : zL) (st : zS) (h : zH), zx 219 2011 ls st h = zgo 219 (zpure (.iload 6) 2013 0 [] ls st h)) :=
  ⟨zx_0 rfl, zx_2c rfl, zx_0 rfl, zx_0 rfl, zx_0 rfl, zx_0 rfl, zx_0 rfl, zx_0 rfl, zx_0 rfl, zx_0 rfl, zx_0 rfl, zx_0 rfl, zx_0 rfl, zx_0 rfl, zx_2c rfl, zx_0 rfl, zx_0 rfl, zx_2c rfl, zx_0 rfl, zx_0 rfl, zx_0 rfl, zx_1 rfl, zx_0 rfl, zx_0 rfl, zx_0 rfl, zx_0 rfl, zx_0 rfl, zx_0 rfl, zx_0 rfl, zx_0 rfl, zx_0 rfl, zx_0 rfl, zx_0 rfl, zx_0 rfl, zx_0 rfl, zx_0 rfl, zx_0 rfl, zx_0 rfl, zx_0 rfl, zx_0 rfl, zx_0 rfl, zx_0 rfl, zx_0 rfl, zx_0 rfl, zx_1 rfl, zx_0 rfl, zx_0 rfl, zx_0 rfl, zx_2c rfl, zx_0 rfl, zx_0 rfl, zx_2c rfl, zx_0 rfl, zx_0 rfl, zx_2c rfl, zx_0 rfl, zx_0 rfl, zx_0 rfl, zx_1 rfl, zx_0 rfl⟩
set_option maxRecDepth 4000 in
theorem z219_b20 :
  (∀ (ls : zL) (st : zS) (h : zH), zx 219 2013 ls st h = zgo 219 (zpure (.ifCond .ne 15) 2016 2028 [] ls st h)) ∧
  (∀ (ls : zL) (st : zS) (h : zH), zx 219 2016 ls st h = zgo 219 (zpure (.aload_n 3) 2017 0 [] ls st h)) ∧
  (∀ (ls : zL) (st : zS) (h : zH), zx 219 2017 ls st h = zgo 219 (zpure (.iconst 0) 2018 0 [] ls st h)) ∧
  (∀ (ls : zL) (st : zS) (h : zH), zx 219 2018 ls st h = zgo 219 (zpure .laload 2019 0 [] ls st h)) ∧
  (∀ (ls : zL) (st : zS) (h : zH), zx 219 2019 ls st h = zgo 219 (zpure (.iload 7) 2021 0 [] ls st h)) ∧
  (∀ (ls : zL) (st : zS) (h : zH), zx 219 2021 ls st h = zgo 219 (zpure .i2l 2022 0 [] ls st h)) ∧
  (∀ (ls : zL) (st : zS) (h : zH), zx 219 2022 ls st h = zgo 219 (zpure .lcmp 2023 0 [] ls st h)) ∧
  (∀ (ls : zL) (st : zS) (h : zH), zx 219 2023 ls st h = zgo 219 (zpure (.ifCond .eq 5) 2026 2028 [] ls st h)) ∧
  (∀ (ls : zL) (st : zS) (h : zH), zx 219 2026 ls st h = zgo 219 (zpure (.iconst 0) 2027 0 [] ls st h)) ∧
  (∀ (ls : zL) (st : zS) (h : zH), zx 219 2027 ls st h = zret 1 st h) ∧
  (∀ (ls : zL) (st : zS) (h : zH), zx 219 2028 ls st h = zgo 219 (zpure (.goto 240) 2031 2268 [] ls st h)) ∧
  (∀ (ls : zL) (st : zS) (h : zH), zx 219 2031 ls st h = zgo 219 (zpure (.aload_n 1) 2032 0 [] ls st h)) ∧
  (∀ (ls : zL) (st : zS) (h : zH), zx 219 2032 ls st h = zca 219 2032 2035 ls 72 1 6 (ztake 1 st) h) ∧
  (∀ (ls : zL) (st : zS) (h : zH), zx 219 2035 ls st h = zgo 219 (zpure (.aload_n 2) 2036 0 [] ls st h)) ∧
  (∀ (ls : zL) (st : zS) (h : zH), zx 219 2036 ls st h = zca 219 2036 2039 ls 158 1 7 (ztake 1 st) h) ∧
  (∀ (ls : zL) (st : zS) (h : zH), zx 219 2039 ls st h = zgo 219 (zpure (.if_icmp .eq 229) 2042 2268 [] ls st h)) ∧
  (∀ (ls : zL) (st : zS) (h : zH), zx 219 2042 ls st h = zgo 219 (zpure (.iconst 0) 2043 0 [] ls st h)) ∧
  (∀ (ls : zL) (st : zS) (h : zH), zx 219 2043 ls st h = zret 1 st h) ∧
  (∀ (ls : zL) (st : zS) (h : zH), zx 219 2044 ls st h = zgo 219 (zpure (.aload_n 1) 2045 0 [] ls st h)) ∧
  (∀ (ls : zL) (st : zS) (h : zH), zx 219 2045 ls st h = zca 219 2045 2048 ls 73 1 6 (ztake 1 st) h) ∧
  (∀ (ls : zL) (st : zS) (h : zH), zx 219 2048 ls st h = zgo 219 (zpure (.aload_n 2) 2049 0 [] ls st h)) ∧
  (∀ (ls : zL) (st : zS) (h : zH), zx 219 2049 ls st h = zca 219 2049 2052 ls 159 1 7 (ztake 1 st) h) ∧
  (∀ (ls : zL) (st : zS) (h : zH), zx 219 2052 ls st h = zgo 219 (zpure (.if_icmp .eq 216) 2055 2268 [] ls st h)) ∧
  (∀ (ls : zL) (st : zS) (h : zH), zx 219 2055 ls st h = zgo 219 (zpure (.iconst 0) 2056 0 [] ls st h)) ∧
  (∀ (ls : zL) (st : zS) (h : zH), zx 219 2056 ls st h = zret 1 st h) ∧
  (∀ (ls : zL) (st : zS) (h : zH), zx 219 2057 ls st h = zgo 219 (zpure (.aload_n 1) 2058 0 [] ls st h)) ∧
  (∀ (ls : zL) (st : zS) (h : zH), zx 219 2058 ls st h = zgo 219 (zpure (.aload_n 0) 2059 0 [] ls st h)) ∧
  (∀ (ls : zL) (st : zS) (h : zH), zx 219 2059 ls st h = zgo 219 (zpure (.iload 5) 2061 0 [] ls st h)) ∧
  (∀ (ls : zL) (st : zS) (h : zH), zx 219 2061 ls st h = zgo 219 (zpure (.iconst 1) 2062 0 [] ls st h)) ∧
  (∀ (ls : zL) (st : zS) (h : zH), zx 219 2062 ls st h = zgo 219 (zpure .iadd 2063 0 [] ls st h)) ∧
  (∀ (ls : zL) (st : zS) (h : zH), zx 219 2063 ls st h = zgo 219 (zpure .iaload 2064 0 [] ls st h)) ∧
  (∀ (ls : zL) (st : zS) (h : zH), zx 219 2064 ls st h = zgo 219 (zpure (.aload_n 3) 2065 0 [] ls st h)) ∧
  (∀ (ls : zL) (st : zS) (h : zH), zx 219 2065 ls st h = zca 219 2065 2068 ls 215 4 0 (ztake 3 st) h) ∧
  (∀ (ls : zL) (st : zS) (h : zH), zx 219 2068 ls st h = zgo 219 (zpure (.istore 6) 2070 0 [] ls st h)) ∧
  (∀ (ls : zL) (st : zS) (h : zH), zx 219 2070 ls st h = zgo 219 (zpure (.aload_n 2) 2071 0 [] ls st h)) ∧
  (∀ (ls : zL) (st : zS) (h : zH), zx 219 2071 ls st h = zgo 219 (zpure (.aload_n 0) 2072 0 [] ls st h)) ∧
  (∀ (ls : zL) (st : zS) (h : zH), zx 219 2072 ls st h = zgo 219 (zpure (.iload 5) 2074 0 [] ls st h)) ∧
  (∀ (ls : zL) (st : zS) (h : zH), zx 219 2074 ls st h = zgo 219 (zpure (.iconst 1) 2075 0 [] ls st h)) ∧
  (∀ (ls : zL) (st : zS) (h : zH), zx 219 2075 ls st h = zgo 219 (zpure .iadd 2076 0 [] ls st h)) ∧
  (∀ (ls : zL) (st : zS) (h : zH), zx 219 2076 ls st h = zgo 219 (zpure .iaload 2077 0 [] ls st h)) ∧
  (∀ (ls : zL) (st : zS) (h : zH), zx 219 2077 ls st h = zca 219 2077 2080 ls 160 2 7 (ztake 2 st) h) ∧
  (∀ (ls : zL) (st : zS) (h : zH), zx 219 2080 ls st h = zgo 219 (zpure (.istore 7) 2082 0 [] ls st h)) ∧
  (∀ (ls : zL) (st : zS) (h : zH), zx 219 2082 ls st h = zgo 219 (zpure (.aload_n 2) 2083 0 [] ls st h)) ∧
  (∀ (ls : zL) (st : zS) (h : zH), zx 219 2083 ls st h = zca 219 2083 2086 ls 103 1 7 (ztake 1 st) h) ∧
  (∀ (ls : zL) (st : zS) (h : zH), zx 219 2086 ls st h = zgo 219 (zpure (.iload 6) 2088 0 [] ls st h)) ∧
  (∀ (ls : zL) (st : zS) (h : zH), zx 219 2088 ls st h = zgo 219 (zpure (.if_icmp .eq 5) 2091 2093 [] ls st h)) ∧
  (∀ (ls : zL) (st : zS) (h : zH), zx 219 2091 ls st h = zgo 219 (zpure (.iconst 0) 2092 0 [] ls st h)) ∧
  (∀ (ls : zL) (st : zS) (h : zH), zx 219 2092 ls st h = zret 1 st h) ∧
  (∀ (ls : zL) (st : zS) (h : zH), zx 219 2093 ls st h = zgo 219 (zpure (.iload 6) 2095 0 [] ls st h)) ∧
  (∀ (ls : zL) (st : zS) (h : zH), zx 219 2095 ls st h = zgo 219 (zpure (.ifCond .ne 15) 2098 2110 [] ls st h)) ∧
  (∀ (ls : zL) (st : zS) (h : zH), zx 219 2098 ls st h = zgo 219 (zpure (.aload_n 3) 2099 0 [] ls st h)) ∧
  (∀ (ls : zL) (st : zS) (h : zH), zx 219 2099 ls st h = zgo 219 (zpure (.iconst 0) 2100 0 [] ls st h)) ∧
  (∀ (ls : zL) (st : zS) (h : zH), zx 219 2100 ls st h = zgo 219 (zpure .laload 2101 0 [] ls st h)) ∧
  (∀ (ls : zL) (st : zS) (h : zH), zx 219 2101 ls st h = zgo 219 (zpure (.iload 7) 2103 0 [] ls st h)) ∧
  (∀ (ls : zL) (st : zS) (h : zH), zx 219 2103 ls st h = zgo 219 (zpure .i2l 2104 0 [] ls st h)) ∧
  (∀ (ls : zL) (st : zS) (h : zH), zx 219 2104 ls st h = zgo 219 (zpure .lcmp 2105 0 [] ls st h)) ∧
  (∀ (ls : zL) (st : zS) (h : zH), zx 219 2105 ls st h = zgo 219 (zpure (.ifCond .eq 5) 2108 2110 [] ls st h)) ∧
  (∀ (ls : zL) (st : zS) (h : zH), zx 219 2108 ls st h = zgo 219 (zpure (.iconst 0) 2109 0 [] ls st h)) ∧
  (∀ (ls : zL) (st : zS) (h : zH), zx 219 2109 ls st h = zret 1 st h) ∧
  (∀ (ls : zL) (st : zS) (h : zH), zx 219 2110 ls st h = zgo 219 (zpure (.goto 158) 2113 2268 [] ls st h)) :=
  ⟨zx_0 rfl, zx_0 rfl, zx_0 rfl, zx_0 rfl, zx_0 rfl, zx_0 rfl, zx_0 rfl, zx_0 rfl, zx_0 rfl, zx_1 rfl, zx_0 rfl, zx_0 rfl, zx_2c rfl, zx_0 rfl, zx_2c rfl, zx_0 rfl, zx_0 rfl, zx_1 rfl, zx_0 rfl, zx_2c rfl, zx_0 rfl, zx_2c rfl, zx_0 rfl, zx_0 rfl, zx_1 rfl, zx_0 rfl, zx_0 rfl, zx_0 rfl, zx_0 rfl, zx_0 rfl, zx_0 rfl, zx_0 rfl, zx_2c rfl, zx_0 rfl, zx_0 rfl, zx_0 rfl, zx_0 rfl, zx_0 rfl, zx_0 rfl, zx_0 rfl, zx_2c rfl, zx_0 rfl, zx_0 rfl, zx_2c rfl, zx_0 rfl, zx_0 rfl, zx_0 rfl, zx_1 rfl, zx_0 rfl, zx_0 rfl, zx_0 rfl, zx_0 rfl, zx_0 rfl, zx_0 rfl, zx_0 rfl, zx_0 rfl, zx_0 rfl, zx_0 rfl, zx_1 rfl, zx_0 rfl⟩
set_option maxRecDepth 4000 in
theorem z219_b21 :
  (∀ (ls : zL) (st : zS) (h : zH), zx 219 2113 ls st h = zgo 219 (zpure (.aload_n 1) 2114 0 [] ls st h)) ∧
  (∀ (ls : zL) (st : zS) (h : zH), zx 219 2114 ls st h = zgo 219 (zpure (.aload_n 0) 2115 0 [] ls st h)) ∧
  (∀ (ls : zL) (st : zS) (h : zH), zx 219 2115 ls st h = zgo 219 (zpure (.iload 5) 2117 0 [] ls st h)) ∧
  (∀ (ls : zL) (st : zS) (h : zH), zx 219 2117 ls st h = zgo 219 (zpure (.iconst 1) 2118 0 [] ls st h)) ∧
  (∀ (ls : zL) (st : zS) (h : zH), zx 219 2118 ls st h = zgo 219 (zpure .iadd 2119 0 [] ls st h)) ∧
  (∀ (ls : zL) (st : zS) (h : zH), zx 219 2119 ls st h = zgo 219 (zpure .iaload 2120 0 [] ls st h)) ∧
  (∀ (ls : zL) (st : zS) (h : zH), zx 219 2120 ls st h = zgo 219 (zpure (.aload_n 3) 2121 0 [] ls st h)) ∧
  (∀ (ls : zL) (st : zS) (h : zH), zx 219 2121 ls st h = zca 219 2121 2124 ls 216 4 0 (ztake 3 st) h) ∧
  (∀ (ls : zL) (st : zS) (h : zH), zx 219 2124 ls st h = zgo 219 (zpure (.istore 6) 2126 0 [] ls st h)) ∧
  (∀ (ls : zL) (st : zS) (h : zH), zx 219 2126 ls st h = zgo 219 (zpure (.aload_n 2) 2127 0 [] ls st h)) ∧
  (∀ (ls : zL) (st : zS) (h : zH), zx 219 2127 ls st h = zgo 219 (zpure (.aload_n 0) 2128 0 [] ls st h)) ∧
  (∀ (ls : zL) (st : zS) (h : zH), zx 219 2128 ls st h = zgo 219 (zpure (.iload 5) 2130 0 [] ls st h)) ∧
  (∀ (ls : zL) (st : zS) (h : zH), zx 219 2130 ls st h = zgo 219 (zpure (.iconst 1) 2131 0 [] ls st h)) ∧
  (∀ (ls : zL) (st : zS) (h : zH), zx 219 2131 ls st h = zgo 219 (zpure .iadd 2132 0 [] ls st h)) ∧
  (∀ (ls : zL) (st : zS) (h : zH), zx 219 2132 ls st h = zgo 219 (zpure .iaload 2133 0 [] ls st h)) ∧
  (∀ (ls : zL) (st : zS) (h : zH), zx 219 2133 ls st h = zca 219 2133 2136 ls 161 2 7 (ztake 2 st) h) ∧
  (∀ (ls : zL) (st : zS) (h : zH), zx 219 2136 ls st h = zgo 219 (zpure (.istore 7) 2138 0 [] ls st h)) ∧
  (∀ (ls : zL) (st : zS) (h : zH), zx 219 2138 ls st h = zgo 219 (zpure (.aload_n 2) 2139 0 [] ls st h)) ∧
  (∀ (ls : zL) (st : zS) (h : zH), zx 219 2139 ls st h = zca 219 2139 2142 ls 103 1 7 (ztake 1 st) h) ∧
  (∀ (ls : zL) (st : zS) (h : zH), zx 219 2142 ls st h = zgo 219 (zpure (.iload 6) 2144 0 [] ls st h)) ∧
  (∀ (ls : zL) (st : zS) (h : zH), zx 219 2144 ls st h = zgo 219 (zpure (.if_icmp .eq 5) 2147 2149 [] ls st h)) ∧
  (∀ (ls : zL) (st : zS) (h : zH), zx 219 2147 ls st h = zgo 219 (zpure (.iconst 0) 2148 0 [] ls st h)) ∧
  (∀ (ls : zL) (st : zS) (h : zH), zx 219 2148 ls st h = zret 1 st h) ∧
  (∀ (ls : zL) (st : zS) (h : zH), zx 219 2149 ls st h = zgo 219 (zpure (.iload 6) 2151 0 [] ls st h)) ∧
  (∀ (ls : zL) (st : zS) (h : zH), zx 219 2151 ls st h = zgo 219 (zpure (.ifCond .ne 15) 2154 2166 [] ls st h)) ∧
  (∀ (ls : zL) (st : zS) (h : zH), zx 219 2154 ls st h = zgo 219 (zpure (.aload_n 3) 2155 0 [] ls st h)) ∧
  (∀ (ls : zL) (st : zS) (h : zH), zx 219 2155 ls st h = zgo 219 (zpure (.iconst 0) 2156 0 [] ls st h)) ∧
  (∀ (ls : zL) (st : zS) (h : zH), zx 219 2156 ls st h = zgo 219 (zpure .laload 2157 0 [] ls st h)) ∧
  (∀ (ls : zL) (st : zS) (h : zH), zx 219 2157 ls st h = zgo 219 (zpure (.iload 7) 2159 0 [] ls st h)) ∧
  (∀ (ls : zL) (st : zS) (h : zH), zx 219 2159 ls st h = zgo 219 (zpure .i2l 2160 0 [] ls st h)) ∧
  (∀ (ls : zL) (st : zS) (h : zH), zx 219 2160 ls st h = zgo 219 (zpure .lcmp 2161 0 [] ls st h)) ∧
  (∀ (ls : zL) (st : zS) (h : zH), zx 219 2161 ls st h = zgo 219 (zpure (.ifCond .eq 5) 2164 2166 [] ls st h)) ∧
  (∀ (ls : zL) (st : zS) (h : zH), zx 219 2164 ls st h = zgo 219 (zpure (.iconst 0) 2165 0 [] ls st h)) ∧
  (∀ (ls : zL) (st : zS) (h : zH), zx 219 2165 ls st h = zret 1 st h) ∧
  (∀ (ls : zL) (st : zS) (h : zH), zx 219 2166 ls st h = zgo 219 (zpure (.goto 102) 2169 2268 [] ls st h)) ∧
  (∀ (ls : zL) (st : zS) (h : zH), zx 219 2169 ls st h = zgo 219 (zpure (.aload_n 1) 2170 0 [] ls st h)) ∧
  (∀ (ls : zL) (st : zS) (h : zH), zx 219 2170 ls st h = zgo 219 (zpure (.aload_n 3) 2171 0 [] ls st h)) ∧
  (∀ (ls : zL) (st : zS) (h : zH), zx 219 2171 ls st h = zca 219 2171 2174 ls 217 3 0 (ztake 2 st) h) ∧
  (∀ (ls : zL) (st : zS) (h : zH), zx 219 2174 ls st h = zgo 219 (zpure (.istore 6) 2176 0 [] ls st h)) ∧
  (∀ (ls : zL) (st : zS) (h : zH), zx 219 2176 ls st h = zgo 219 (zpure (.aload_n 2) 2177 0 [] ls st h)) ∧
  (∀ (ls : zL) (st : zS) (h : zH), zx 219 2177 ls st h = zca 219 2177 2180 ls 162 4 7 (ztake 1 st) h) ∧
  (∀ (ls : zL) (st : zS) (h : zH), zx 219 2180 ls st h = zgo 219 (zpure (.istore 7) 2182 0 [] ls st h)) ∧
  (∀ (ls : zL) (st : zS) (h : zH), zx 219 2182 ls st h = zgo 219 (zpure (.aload_n 2) 2183 0 [] ls st h)) ∧
  (∀ (ls : zL) (st : zS) (h : zH), zx 219 2183 ls st h = zca 219 2183 2186 ls 103 1 7 (ztake 1 st) h) ∧
  (∀ (ls : zL) (st : zS) (h : zH), zx 219 2186 ls st h = zgo 219 (zpure (.iload 6) 2188 0 [] ls st h)) ∧
  (∀ (ls : zL) (st : zS) (h : zH), zx 219 2188 ls st h = zgo 219 (zpure (.if_icmp .eq 5) 2191 2193 [] ls st h)) ∧
  (∀ (ls : zL) (st : zS) (h : zH), zx 219 2191 ls st h = zgo 219 (zpure (.iconst 0) 2192 0 [] ls st h)) ∧
  (∀ (ls : zL) (st : zS) (h : zH), zx 219 2192 ls st h = zret 1 st h) ∧
  (∀ (ls : zL) (st : zS) (h : zH), zx 219 2193 ls st h = zgo 219 (zpure (.iload 6) 2195 0 [] ls st h)) ∧
  (∀ (ls : zL) (st : zS) (h : zH), zx 219 2195 ls st h = zgo 219 (zpure (.ifCond .ne 15) 2198 2210 [] ls st h)) ∧
  (∀ (ls : zL) (st : zS) (h : zH), zx 219 2198 ls st h = zgo 219 (zpure (.aload_n 3) 2199 0 [] ls st h)) ∧
  (∀ (ls : zL) (st : zS) (h : zH), zx 219 2199 ls st h = zgo 219 (zpure (.iconst 0) 2200 0 [] ls st h)) ∧
  (∀ (ls : zL) (st : zS) (h : zH), zx 219 2200 ls st h = zgo 219 (zpure .laload 2201 0 [] ls st h)) ∧
  (∀ (ls : zL) (st : zS) (h : zH), zx 219 2201 ls st h = zgo 219 (zpure (.iload 7) 2203 0 [] ls st h)) ∧
  (∀ (ls : zL) (st : zS) (h : zH), zx 219 2203 ls st h = zgo 219 (zpure .i2l 2204 0 [] ls st h)) ∧
  (∀ (ls : zL) (st : zS) (h : zH), zx 219 2204 ls st h = zgo 219 (zpure .lcmp 2205 0 [] ls st h)) ∧
  (∀ (ls : zL) (st : zS) (h : zH), zx 219 2205 ls st h = zgo 219 (zpure (.ifCond .eq 5) 2208 2210 [] ls st h)) ∧
  (∀ (ls : zL) (st : zS) (h : zH), zx 219 2208 ls st h = zgo 219 (zpure (.iconst 0) 2209 0 [] ls st h)) ∧
  (∀ (ls : zL) (st : zS) (h : zH), zx 219 2209 ls st h = zret 1 st h) ∧
  (∀ (ls : zL) (st : zS) (h : zH), zx 219 2210 ls st h = zgo 219 (zpure (.goto 58) 2213 2268 [] ls st h)) :=
  ⟨zx_0 rfl, zx_0 rfl, zx_0 rfl, zx_0 rfl, zx_0 rfl, zx_0 rfl, zx_0 rfl, zx_2c rfl, zx_0 rfl, zx_0 rfl, zx_0 rfl, zx_0 rfl, zx_0 rfl, zx_0 rfl, zx_0 rfl, zx_2c rfl, zx_0 rfl, zx_0 rfl, zx_2c rfl, zx_0 rfl, zx_0 rfl, zx_0 rfl, zx_1 rfl, zx_0 rfl, zx_0 rfl, zx_0 rfl, zx_0 rfl, zx_0 rfl, zx_0 rfl, zx_0 rfl, zx_0 rfl, zx_0 rfl, zx_0 rfl, zx_1 rfl, zx_0 rfl, zx_0 rfl, zx_0 rfl, zx_2c rfl, zx_0 rfl, zx_0 rfl, zx_2c rfl, zx_0 rfl, zx_0 rfl, zx_2c rfl, zx_0 rfl, zx_0 rfl, zx_0 rfl, zx_1 rfl, zx_0 rfl, zx_0 rfl, zx_0 rfl, zx_0 rfl, zx_0 rfl, zx_0 rfl, zx_0 rfl, zx_0 rfl, zx_0 rfl, zx_0 rfl, zx_1 rfl, zx_0 rfl⟩
set_option maxRecDepth 4000 in
theorem z219_b22 :
  (∀ (ls : zL) (st : zS) (h : zH), zx 219 2213 ls st h = zgo 219 (zpure (.aload_n 1) 2214 0 [] ls st h)) ∧
  (∀ (ls : zL) (st : zS) (h : zH), zx 219 2214 ls st h = zgo 219 (zpure (.aload_n 0) 2215 0 [] ls st h)) ∧
  (∀ (ls : zL) (st : zS) (h : zH), zx 219 2215 ls st h = zgo 219 (zpure (.iload 5) 2217 0 [] ls st h)) ∧
  (∀ (ls : zL) (st : zS) (h : zH), zx 219 2217 ls st h = zgo 219 (zpure (.iconst 1) 2218 0 [] ls st h)) ∧
  (∀ (ls : zL) (st : zS) (h : zH), zx 219 2218 ls st h = zgo 219 (zpure .iadd 2219 0 [] ls st h)) ∧
  (∀ (ls : zL) (st : zS) (h : zH), zx 219 2219 ls st h = zgo 219 (zpure .iaload 2220 0 [] ls st h)) ∧
  (∀ (ls : zL) (st : zS) (h : zH), zx 219 2220 ls st h = zgo 219 (zpure (.aload_n 3) 2221 0 [] ls st h)) ∧
  (∀ (ls : zL) (st : zS) (h : zH), zx 219 2221 ls st h = zca 219 2221 2224 ls 218 4 0 (ztake 3 st) h) ∧
  (∀ (ls : zL) (st : zS) (h : zH), zx 219 2224 ls st h = zgo 219 (zpure (.istore 6) 2226 0 [] ls st h)) ∧
  (∀ (ls : zL) (st : zS) (h : zH), zx 219 2226 ls st h = zgo 219 (zpure (.aload_n 2) 2227 0 [] ls st h)) ∧
  (∀ (ls : zL) (st : zS) (h : zH), zx 219 2227 ls st h = zgo 219 (zpure (.aload_n 0) 2228 0 [] ls st h)) ∧
  (∀ (ls : zL) (st : zS) (h : zH), zx 219 2228 ls st h = zgo 219 (zpure (.iload 5) 2230 0 [] ls st h)) ∧
  (∀ (ls : zL) (st : zS) (h : zH), zx 219 2230 ls st h = zgo 219 (zpure (.iconst 1) 2231 0 [] ls st h)) ∧
  (∀ (ls : zL) (st : zS) (h : zH), zx 219 2231 ls st h = zgo 219 (zpure .iadd 2232 0 [] ls st h)) ∧
  (∀ (ls : zL) (st : zS) (h : zH), zx 219 2232 ls st h = zgo 219 (zpure .iaload 2233 0 [] ls st h)) ∧
  (∀ (ls : zL) (st : zS) (h : zH), zx 219 2233 ls st h = zca 219 2233 2236 ls 163 2 7 (ztake 2 st) h) ∧
  (∀ (ls : zL) (st : zS) (h : zH), zx 219 2236 ls st h = zgo 219 (zpure (.lstore 7) 2238 0 [] ls st h)) ∧
  (∀ (ls : zL) (st : zS) (h : zH), zx 219 2238 ls st h = zgo 219 (zpure (.aload_n 2) 2239 0 [] ls st h)) ∧
  (∀ (ls : zL) (st : zS) (h : zH), zx 219 2239 ls st h = zca 219 2239 2242 ls 103 1 7 (ztake 1 st) h) ∧
  (∀ (ls : zL) (st : zS) (h : zH), zx 219 2242 ls st h = zgo 219 (zpure (.iload 6) 2244 0 [] ls st h)) ∧
  (∀ (ls : zL) (st : zS) (h : zH), zx 219 2244 ls st h = zgo 219 (zpure (.if_icmp .eq 5) 2247 2249 [] ls st h)) ∧
  (∀ (ls : zL) (st : zS) (h : zH), zx 219 2247 ls st h = zgo 219 (zpure (.iconst 0) 2248 0 [] ls st h)) ∧
  (∀ (ls : zL) (st : zS) (h : zH), zx 219 2248 ls st h = zret 1 st h) ∧
  (∀ (ls : zL) (st : zS) (h : zH), zx 219 2249 ls st h = zgo 219 (zpure (.iload 6) 2251 0 [] ls st h)) ∧
  (∀ (ls : zL) (st : zS) (h : zH), zx 219 2251 ls st h = zgo 219 (zpure (.ifCond .ne 14) 2254 2265 [] ls st h)) ∧
  (∀ (ls : zL) (st : zS) (h : zH), zx 219 2254 ls st h = zgo 219 (zpure (.aload_n 3) 2255 0 [] ls st h)) ∧
  (∀ (ls : zL) (st : zS) (h : zH), zx 219 2255 ls st h = zgo 219 (zpure (.iconst 0) 2256 0 [] ls st h)) ∧
  (∀ (ls : zL) (st : zS) (h : zH), zx 219 2256 ls st h = zgo 219 (zpure .laload 2257 0 [] ls st h)) ∧
  (∀ (ls : zL) (st : zS) (h : zH), zx 219 2257 ls st h = zgo 219 (zpure (.lload 7) 2259 0 [] ls st h)) ∧
  (∀ (ls : zL) (st : zS) (h : zH), zx 219 2259 ls st h = zgo 219 (zpure .lcmp 2260 0 [] ls st h)) ∧
  (∀ (ls : zL) (st : zS) (h : zH), zx 219 2260 ls st h = zgo 219 (zpure (.ifCond .eq 5) 2263 2265 [] ls st h)) ∧
  (∀ (ls : zL) (st : zS) (h : zH), zx 219 2263 ls st h = zgo 219 (zpure (.iconst 0) 2264 0 [] ls st h)) ∧
  (∀ (ls : zL) (st : zS) (h : zH), zx 219 2264 ls st h = zret 1 st h) ∧
  (∀ (ls : zL) (st : zS) (h : zH), zx 219 2265 ls st h = zgo 219 (zpure (.goto 3) 2268 2268 [] ls st h)) ∧
  (∀ (ls : zL) (st : zS) (h : zH), zx 219 2268 ls st h = zgo 219 (zpure (.iinc 5 6) 2271 0 [] ls st h)) ∧
  (∀ (ls : zL) (st : zS) (h : zH), zx 219 2271 ls st h = zgo 219 (zpure (.goto (-2243)) 2274 28 [] ls st h)) ∧
  (∀ (ls : zL) (st : zS) (h : zH), zx 219 2274 ls st h = zgo 219 (zpure (.iconst 1) 2275 0 [] ls st h)) ∧
  (∀ (ls : zL) (st : zS) (h : zH), zx 219 2275 ls st h = zret 1 st h) :=
  ⟨zx_0 rfl, zx_0 rfl, zx_0 rfl, zx_0 rfl, zx_0 rfl, zx_0 rfl, zx_0 rfl, zx_2c rfl, zx_0 rfl, zx_0 rfl, zx_0 rfl, zx_0 rfl, zx_0 rfl, zx_0 rfl, zx_0 rfl, zx_2c rfl, zx_0 rfl, zx_0 rfl, zx_2c rfl, zx_0 rfl, zx_0 rfl, zx_0 rfl, zx_1 rfl, zx_0 rfl, zx_0 rfl, zx_0 rfl, zx_0 rfl, zx_0 rfl, zx_0 rfl, zx_0 rfl, zx_0 rfl, zx_0 rfl, zx_1 rfl, zx_0 rfl, zx_0 rfl, zx_0 rfl, zx_0 rfl, zx_1 rfl⟩

/-! each instruction of each method, as a step (a program has written them): zK all but the heads of loops, zK_pc a head -/
/-- L_cell -/
theorem z220 :
  (∀ (ls : zL) (st : zS) (h : zH), zx 220 0 ls st h = zgo 220 (zpure (.iload_n 1) 1 0 [] ls st h)) ∧
  (∀ (ls : zL) (st : zS) (h : zH), zx 220 1 ls st h = zgo 220 (zpure (.aload_n 0) 2 0 [] ls st h)) ∧
  (∀ (ls : zL) (st : zS) (h : zH), zx 220 2 ls st h = zgo 220 (zpure .arraylength 3 0 [] ls st h)) ∧
  (∀ (ls : zL) (st : zS) (h : zH), zx 220 3 ls st h = zgo 220 (zpure (.if_icmp .ge 9) 6 12 [] ls st h)) ∧
  (∀ (ls : zL) (st : zS) (h : zH), zx 220 6 ls st h = zgo 220 (zpure (.aload_n 0) 7 0 [] ls st h)) ∧
  (∀ (ls : zL) (st : zS) (h : zH), zx 220 7 ls st h = zgo 220 (zpure (.iload_n 1) 8 0 [] ls st h)) ∧
  (∀ (ls : zL) (st : zS) (h : zH), zx 220 8 ls st h = zgo 220 (zpure .iaload 9 0 [] ls st h)) ∧
  (∀ (ls : zL) (st : zS) (h : zH), zx 220 9 ls st h = zgo 220 (zpure (.goto 4) 12 13 [] ls st h)) ∧
  (∀ (ls : zL) (st : zS) (h : zH), zx 220 12 ls st h = zgo 220 (zpure (.iconst 0) 13 0 [] ls st h)) ∧
  (∀ (ls : zL) (st : zS) (h : zH), zx 220 13 ls st h = zret 0 st h) :=
  ⟨zx_0 rfl, zx_0 rfl, zx_0 rfl, zx_0 rfl, zx_0 rfl, zx_0 rfl, zx_0 rfl, zx_0 rfl, zx_0 rfl, zx_1 rfl⟩
/-- L_some -/
theorem z221 :
  (∀ (ls : zL) (st : zS) (h : zH), zx 221 0 ls st h = zgo 221 (zpure (.iload_n 0) 1 0 [] ls st h)) ∧
  (∀ (ls : zL) (st : zS) (h : zH), zx 221 1 ls st h = zgo 221 (zpure (.iload_n 1) 2 0 [] ls st h)) ∧
  (∀ (ls : zL) (st : zS) (h : zH), zx 221 2 ls st h = zgo 221 (zpure .irem 3 0 [] ls st h)) ∧
  (∀ (ls : zL) (st : zS) (h : zH), zx 221 3 ls st h = zgo 221 (zpure (.istore_n 2) 4 0 [] ls st h)) ∧
  (∀ (ls : zL) (st : zS) (h : zH), zx 221 4 ls st h = zgo 221 (zpure (.iload_n 2) 5 0 [] ls st h)) ∧
  (∀ (ls : zL) (st : zS) (h : zH), zx 221 5 ls st h = zgo 221 (zpure (.ifCond .ge 9) 8 14 [] ls st h)) ∧
  (∀ (ls : zL) (st : zS) (h : zH), zx 221 8 ls st h = zgo 221 (zpure (.iload_n 2) 9 0 [] ls st h)) ∧
  (∀ (ls : zL) (st : zS) (h : zH), zx 221 9 ls st h = zgo 221 (zpure (.iload_n 1) 10 0 [] ls st h)) ∧
  (∀ (ls : zL) (st : zS) (h : zH), zx 221 10 ls st h = zgo 221 (zpure .iadd 11 0 [] ls st h)) ∧
  (∀ (ls : zL) (st : zS) (h : zH), zx 221 11 ls st h = zgo 221 (zpure (.goto 4) 14 15 [] ls st h)) ∧
  (∀ (ls : zL) (st : zS) (h : zH), zx 221 14 ls st h = zgo 221 (zpure (.iload_n 2) 15 0 [] ls st h)) ∧
  (∀ (ls : zL) (st : zS) (h : zH), zx 221 15 ls st h = zret 0 st h) :=
  ⟨zx_0 rfl, zx_0 rfl, zx_0 rfl, zx_0 rfl, zx_0 rfl, zx_0 rfl, zx_0 rfl, zx_0 rfl, zx_0 rfl, zx_0 rfl, zx_0 rfl, zx_1 rfl⟩
/-- L_clip -/
theorem z222 :
  (∀ (ls : zL) (st : zS) (h : zH), zx 222 0 ls st h = zgo 222 (zpure (.iload_n 3) 1 0 [] ls st h)) ∧
  (∀ (ls : zL) (st : zS) (h : zH), zx 222 1 ls st h = zgo 222 (zpure (.ifCond .ge 16) 4 17 [] ls st h)) ∧
  (∀ (ls : zL) (st : zS) (h : zH), zx 222 4 ls st h = zgo 222 (zpure (.aload_n 0) 5 0 [] ls st h)) ∧
  (∀ (ls : zL) (st : zS) (h : zH), zx 222 5 ls st h = zgo 222 (zpure (.iload_n 1) 6 0 [] ls st h)) ∧
  (∀ (ls : zL) (st : zS) (h : zH), zx 222 6 ls st h = zgo 222 (zpure (.iload_n 2) 7 0 [] ls st h)) ∧
  (∀ (ls : zL) (st : zS) (h : zH), zx 222 7 ls st h = zgo 222 (zpure (.iload 4) 9 0 [] ls st h)) ∧
  (∀ (ls : zL) (st : zS) (h : zH), zx 222 9 ls st h = zgo 222 (zpure (.iload 5) 11 0 [] ls st h)) ∧
  (∀ (ls : zL) (st : zS) (h : zH), zx 222 11 ls st h = zca 222 11 14 ls 43 6 6 (ztake 5 st) h) ∧
  (∀ (ls : zL) (st : zS) (h : zH), zx 222 14 ls st h = zgo 222 (zpure (.goto 14) 17 28 [] ls st h)) ∧
  (∀ (ls : zL) (st : zS) (h : zH), zx 222 17 ls st h = zgo 222 (zpure (.aload_n 0) 18 0 [] ls st h)) ∧
  (∀ (ls : zL) (st : zS) (h : zH), zx 222 18 ls st h = zgo 222 (zpure (.iload_n 1) 19 0 [] ls st h)) ∧
  (∀ (ls : zL) (st : zS) (h : zH), zx 222 19 ls st h = zgo 222 (zpure (.iload_n 2) 20 0 [] ls st h)) ∧
  (∀ (ls : zL) (st : zS) (h : zH), zx 222 20 ls st h = zgo 222 (zpure (.iload_n 3) 21 0 [] ls st h)) ∧
  (∀ (ls : zL) (st : zS) (h : zH), zx 222 21 ls st h = zgo 222 (zpure (.iload 4) 23 0 [] ls st h)) ∧
  (∀ (ls : zL) (st : zS) (h : zH), zx 222 23 ls st h = zgo 222 (zpure (.iload 5) 25 0 [] ls st h)) ∧
  (∀ (ls : zL) (st : zS) (h : zH), zx 222 25 ls st h = zca 222 25 28 ls 42 7 6 (ztake 6 st) h) ∧
  (∀ (ls : zL) (st : zS) (h : zH), zx 222 28 ls st h = zret 0 st h) ∧
  (∀ (ls : zL) (st : zS) (h : zH), zx 222 29 ls st h = zgo 222 (zpure (.astore 6) 31 0 [] ls st h)) ∧
  (∀ (ls : zL) (st : zS) (h : zH), zx 222 31 ls st h = zgo 222 (zpure (.sipush (-1001)) 34 0 [] ls st h)) ∧
  (∀ (ls : zL) (st : zS) (h : zH), zx 222 34 ls st h = zret 0 st h) ∧
  (∀ (ls : zL) (st : zS) (h : zH), zx 222 35 ls st h = zgo 222 (zpure (.astore 6) 37 0 [] ls st h)) ∧
  (∀ (ls : zL) (st : zS) (h : zH), zx 222 37 ls st h = zgo 222 (zpure (.sipush (-1002)) 40 0 [] ls st h)) ∧
  (∀ (ls : zL) (st : zS) (h : zH), zx 222 40 ls st h = zret 0 st h) :=
  ⟨zx_0 rfl, zx_0 rfl, zx_0 rfl, zx_0 rfl, zx_0 rfl, zx_0 rfl, zx_0 rfl, zx_2c rfl, zx_0 rfl, zx_0 rfl, zx_0 rfl, zx_0 rfl, zx_0 rfl, zx_0 rfl, zx_0 rfl, zx_2c rfl, zx_1 rfl, zx_0 rfl, zx_0 rfl, zx_1 rfl, zx_0 rfl, zx_0 rfl, zx_1 rfl⟩
/-- L_plays -/
theorem z223 :
  (∀ (ls : zL) (st : zS) (h : zH), zx 223 0 ls st h = zgo 223 (zpure (.iload_n 2) 1 0 [] ls st h)) ∧
  (∀ (ls : zL) (st : zS) (h : zH), zx 223 1 ls st h = zgo 223 (zpure (.bipush (-99)) 3 0 [] ls st h)) ∧
  (∀ (ls : zL) (st : zS) (h : zH), zx 223 3 ls st h = zgo 223 (zpure (.if_icmp .ne 11) 6 14 [] ls st h)) ∧
  (∀ (ls : zL) (st : zS) (h : zH), zx 223 6 ls st h = zgo 223 (zpure (.aload_n 0) 7 0 [] ls st h)) ∧
  (∀ (ls : zL) (st : zS) (h : zH), zx 223 7 ls st h = zgo 223 (zpure (.iload_n 1) 8 0 [] ls st h)) ∧
  (∀ (ls : zL) (st : zS) (h : zH), zx 223 8 ls st h = zca 223 8 11 ls 44 2 6 (ztake 2 st) h) ∧
  (∀ (ls : zL) (st : zS) (h : zH), zx 223 11 ls st h = zgo 223 (zpure (.goto 9) 14 20 [] ls st h)) ∧
  (∀ (ls : zL) (st : zS) (h : zH), zx 223 14 ls st h = zgo 223 (zpure (.aload_n 0) 15 0 [] ls st h)) ∧
  (∀ (ls : zL) (st : zS) (h : zH), zx 223 15 ls st h = zgo 223 (zpure (.iload_n 1) 16 0 [] ls st h)) ∧
  (∀ (ls : zL) (st : zS) (h : zH), zx 223 16 ls st h = zgo 223 (zpure (.iload_n 2) 17 0 [] ls st h)) ∧
  (∀ (ls : zL) (st : zS) (h : zH), zx 223 17 ls st h = zca 223 17 20 ls 45 4 6 (ztake 3 st) h) ∧
  (∀ (ls : zL) (st : zS) (h : zH), zx 223 20 ls st h = zret 0 st h) ∧
  (∀ (ls : zL) (st : zS) (h : zH), zx 223 21 ls st h = zgo 223 (zpure (.astore_n 3) 22 0 [] ls st h)) ∧
  (∀ (ls : zL) (st : zS) (h : zH), zx 223 22 ls st h = zgo 223 (zpure (.sipush (-1001)) 25 0 [] ls st h)) ∧
  (∀ (ls : zL) (st : zS) (h : zH), zx 223 25 ls st h = zret 0 st h) ∧
  (∀ (ls : zL) (st : zS) (h : zH), zx 223 26 ls st h = zgo 223 (zpure (.astore_n 3) 27 0 [] ls st h)) ∧
  (∀ (ls : zL) (st : zS) (h : zH), zx 223 27 ls st h = zgo 223 (zpure (.sipush (-1002)) 30 0 [] ls st h)) ∧
  (∀ (ls : zL) (st : zS) (h : zH), zx 223 30 ls st h = zret 0 st h) ∧
  (∀ (ls : zL) (st : zS) (h : zH), zx 223 31 ls st h = zgo 223 (zpure (.astore_n 3) 32 0 [] ls st h)) ∧
  (∀ (ls : zL) (st : zS) (h : zH), zx 223 32 ls st h = zgo 223 (zpure (.sipush (-1003)) 35 0 [] ls st h)) ∧
  (∀ (ls : zL) (st : zS) (h : zH), zx 223 35 ls st h = zret 0 st h) :=
  ⟨zx_0 rfl, zx_0 rfl, zx_0 rfl, zx_0 rfl, zx_0 rfl, zx_2c rfl, zx_0 rfl, zx_0 rfl, zx_0 rfl, zx_0 rfl, zx_2c rfl, zx_1 rfl, zx_0 rfl, zx_0 rfl, zx_1 rfl, zx_0 rfl, zx_0 rfl, zx_1 rfl, zx_0 rfl, zx_0 rfl, zx_1 rfl⟩
/-- L_insert -/
theorem z224 :
  (∀ (ls : zL) (st : zS) (h : zH), zx 224 0 ls st h = zgo 224 (zpure (.aload_n 0) 1 0 [] ls st h)) ∧
  (∀ (ls : zL) (st : zS) (h : zH), zx 224 1 ls st h = zgo 224 (zpure (.iload_n 1) 2 0 [] ls st h)) ∧
  (∀ (ls : zL) (st : zS) (h : zH), zx 224 2 ls st h = zgo 224 (zpure (.iload_n 2) 3 0 [] ls st h)) ∧
  (∀ (ls : zL) (st : zS) (h : zH), zx 224 3 ls st h = zgo 224 (zpure (.iload_n 3) 4 0 [] ls st h)) ∧
  (∀ (ls : zL) (st : zS) (h : zH), zx 224 4 ls st h = zgo 224 (zpure (.iload 4) 6 0 [] ls st h)) ∧
  (∀ (ls : zL) (st : zS) (h : zH), zx 224 6 ls st h = zca 224 6 9 ls 46 6 6 (ztake 5 st) h) ∧
  (∀ (ls : zL) (st : zS) (h : zH), zx 224 9 ls st h = zret 0 st h) ∧
  (∀ (ls : zL) (st : zS) (h : zH), zx 224 10 ls st h = zgo 224 (zpure (.astore 5) 12 0 [] ls st h)) ∧
  (∀ (ls : zL) (st : zS) (h : zH), zx 224 12 ls st h = zgo 224 (zpure (.sipush (-1001)) 15 0 [] ls st h)) ∧
  (∀ (ls : zL) (st : zS) (h : zH), zx 224 15 ls st h = zret 0 st h) ∧
  (∀ (ls : zL) (st : zS) (h : zH), zx 224 16 ls st h = zgo 224 (zpure (.astore 5) 18 0 [] ls st h)) ∧
  (∀ (ls : zL) (st : zS) (h : zH), zx 224 18 ls st h = zgo 224 (zpure (.sipush (-1002)) 21 0 [] ls st h)) ∧
  (∀ (ls : zL) (st : zS) (h : zH), zx 224 21 ls st h = zret 0 st h) ∧
  (∀ (ls : zL) (st : zS) (h : zH), zx 224 22 ls st h = zgo 224 (zpure (.astore 5) 24 0 [] ls st h)) ∧
  (∀ (ls : zL) (st : zS) (h : zH), zx 224 24 ls st h = zgo 224 (zpure (.sipush (-1003)) 27 0 [] ls st h)) ∧
  (∀ (ls : zL) (st : zS) (h : zH), zx 224 27 ls st h = zret 0 st h) ∧
  (∀ (ls : zL) (st : zS) (h : zH), zx 224 28 ls st h = zgo 224 (zpure (.astore 5) 30 0 [] ls st h)) ∧
  (∀ (ls : zL) (st : zS) (h : zH), zx 224 30 ls st h = zgo 224 (zpure (.sipush (-1004)) 33 0 [] ls st h)) ∧
  (∀ (ls : zL) (st : zS) (h : zH), zx 224 33 ls st h = zret 0 st h) :=
  ⟨zx_0 rfl, zx_0 rfl, zx_0 rfl, zx_0 rfl, zx_0 rfl, zx_2c rfl, zx_1 rfl, zx_0 rfl, zx_0 rfl, zx_1 rfl, zx_0 rfl, zx_0 rfl, zx_1 rfl, zx_0 rfl, zx_0 rfl, zx_1 rfl, zx_0 rfl, zx_0 rfl, zx_1 rfl⟩
/-- L_list -/
theorem z225 :
  (∀ (ls : zL) (st : zS) (h : zH), zx 225 0 ls st h = zgo 225 (zpure (.iload_n 3) 1 0 [] ls st h)) ∧
  (∀ (ls : zL) (st : zS) (h : zH), zx 225 1 ls st h = zgo 225 (zpure (.ifCond .ne 11) 4 12 [] ls st h)) ∧
  (∀ (ls : zL) (st : zS) (h : zH), zx 225 4 ls st h = zgo 225 (zpure (.aload_n 0) 5 0 [] ls st h)) ∧
  (∀ (ls : zL) (st : zS) (h : zH), zx 225 5 ls st h = zgo 225 (zpure (.iload_n 1) 6 0 [] ls st h)) ∧
  (∀ (ls : zL) (st : zS) (h : zH), zx 225 6 ls st h = zca 225 6 9 ls 47 2 6 (ztake 2 st) h) ∧
  (∀ (ls : zL) (st : zS) (h : zH), zx 225 9 ls st h = zgo 225 (zpure (.goto 22) 12 31 [] ls st h)) ∧
  (∀ (ls : zL) (st : zS) (h : zH), zx 225 12 ls st h = zgo 225 (zpure (.iload_n 3) 13 0 [] ls st h)) ∧
  (∀ (ls : zL) (st : zS) (h : zH), zx 225 13 ls st h = zgo 225 (zpure (.iconst 1) 14 0 [] ls st h)) ∧
  (∀ (ls : zL) (st : zS) (h : zH), zx 225 14 ls st h = zgo 225 (zpure (.if_icmp .ne 12) 17 26 [] ls st h)) ∧
  (∀ (ls : zL) (st : zS) (h : zH), zx 225 17 ls st h = zgo 225 (zpure (.aload_n 0) 18 0 [] ls st h)) ∧
  (∀ (ls : zL) (st : zS) (h : zH), zx 225 18 ls st h = zgo 225 (zpure (.iload_n 1) 19 0 [] ls st h)) ∧
  (∀ (ls : zL) (st : zS) (h : zH), zx 225 19 ls st h = zgo 225 (zpure (.iload_n 2) 20 0 [] ls st h)) ∧
  (∀ (ls : zL) (st : zS) (h : zH), zx 225 20 ls st h = zca 225 20 23 ls 48 4 6 (ztake 3 st) h) ∧
  (∀ (ls : zL) (st : zS) (h : zH), zx 225 23 ls st h = zgo 225 (zpure (.goto 8) 26 31 [] ls st h)) ∧
  (∀ (ls : zL) (st : zS) (h : zH), zx 225 26 ls st h = zgo 225 (zpure (.aload_n 0) 27 0 [] ls st h)) ∧
  (∀ (ls : zL) (st : zS) (h : zH), zx 225 27 ls st h = zgo 225 (zpure (.iload_n 1) 28 0 [] ls st h)) ∧
  (∀ (ls : zL) (st : zS) (h : zH), zx 225 28 ls st h = zca 225 28 31 ls 52 2 6 (ztake 2 st) h) ∧
  (∀ (ls : zL) (st : zS) (h : zH), zx 225 31 ls st h = zret 0 st h) ∧
  (∀ (ls : zL) (st : zS) (h : zH), zx 225 32 ls st h = zgo 225 (zpure (.astore 4) 34 0 [] ls st h)) ∧
  (∀ (ls : zL) (st : zS) (h : zH), zx 225 34 ls st h = zgo 225 (zpure (.sipush (-1001)) 37 0 [] ls st h)) ∧
  (∀ (ls : zL) (st : zS) (h : zH), zx 225 37 ls st h = zret 0 st h) :=
  ⟨zx_0 rfl, zx_0 rfl, zx_0 rfl, zx_0 rfl, zx_2c rfl, zx_0 rfl, zx_0 rfl, zx_0 rfl, zx_0 rfl, zx_0 rfl, zx_0 rfl, zx_0 rfl, zx_2c rfl, zx_0 rfl, zx_0 rfl, zx_0 rfl, zx_2c rfl, zx_1 rfl, zx_0 rfl, zx_0 rfl, zx_1 rfl⟩
/-- L_over -/
theorem z226 :
  (∀ (ls : zL) (st : zS) (h : zH), zx 226 0 ls st h = zgo 226 (zpure (.aload_n 0) 1 0 [] ls st h)) ∧
  (∀ (ls : zL) (st : zS) (h : zH), zx 226 1 ls st h = zgo 226 (zpure (.iload_n 1) 2 0 [] ls st h)) ∧
  (∀ (ls : zL) (st : zS) (h : zH), zx 226 2 ls st h = zgo 226 (zpure (.iload_n 2) 3 0 [] ls st h)) ∧
  (∀ (ls : zL) (st : zS) (h : zH), zx 226 3 ls st h = zca 226 3 6 ls 49 5 6 (ztake 3 st) h) ∧
  (∀ (ls : zL) (st : zS) (h : zH), zx 226 6 ls st h = zret 0 st h) ∧
  (∀ (ls : zL) (st : zS) (h : zH), zx 226 7 ls st h = zgo 226 (zpure (.astore_n 3) 8 0 [] ls st h)) ∧
  (∀ (ls : zL) (st : zS) (h : zH), zx 226 8 ls st h = zgo 226 (zpure (.sipush (-1001)) 11 0 [] ls st h)) ∧
  (∀ (ls : zL) (st : zS) (h : zH), zx 226 11 ls st h = zret 0 st h) ∧
  (∀ (ls : zL) (st : zS) (h : zH), zx 226 12 ls st h = zgo 226 (zpure (.astore_n 3) 13 0 [] ls st h)) ∧
  (∀ (ls : zL) (st : zS) (h : zH), zx 226 13 ls st h = zgo 226 (zpure (.sipush (-1002)) 16 0 [] ls st h)) ∧
  (∀ (ls : zL) (st : zS) (h : zH), zx 226 16 ls st h = zret 0 st h) :=
  ⟨zx_0 rfl, zx_0 rfl, zx_0 rfl, zx_2c rfl, zx_1 rfl, zx_0 rfl, zx_0 rfl, zx_1 rfl, zx_0 rfl, zx_0 rfl, zx_1 rfl⟩
/-- L_attach -/
theorem z227 :
  (∀ (ls : zL) (st : zS) (h : zH), zx 227 0 ls st h = zgo 227 (zpure (.aload_n 0) 1 0 [] ls st h)) ∧
  (∀ (ls : zL) (st : zS) (h : zH), zx 227 1 ls st h = zgo 227 (zpure (.iload_n 1) 2 0 [] ls st h)) ∧
  (∀ (ls : zL) (st : zS) (h : zH), zx 227 2 ls st h = zgo 227 (zpure (.iload_n 2) 3 0 [] ls st h)) ∧
  (∀ (ls : zL) (st : zS) (h : zH), zx 227 3 ls st h = zgo 227 (zpure (.iload_n 3) 4 0 [] ls st h)) ∧
  (∀ (ls : zL) (st : zS) (h : zH), zx 227 4 ls st h = zgo 227 (zpure (.iload 4) 6 0 [] ls st h)) ∧
  (∀ (ls : zL) (st : zS) (h : zH), zx 227 6 ls st h = zca 227 6 9 ls 50 6 6 (ztake 5 st) h) ∧
  (∀ (ls : zL) (st : zS) (h : zH), zx 227 9 ls st h = zret 0 st h) ∧
  (∀ (ls : zL) (st : zS) (h : zH), zx 227 10 ls st h = zgo 227 (zpure (.astore 5) 12 0 [] ls st h)) ∧
  (∀ (ls : zL) (st : zS) (h : zH), zx 227 12 ls st h = zgo 227 (zpure (.sipush (-1001)) 15 0 [] ls st h)) ∧
  (∀ (ls : zL) (st : zS) (h : zH), zx 227 15 ls st h = zret 0 st h) ∧
  (∀ (ls : zL) (st : zS) (h : zH), zx 227 16 ls st h = zgo 227 (zpure (.astore 5) 18 0 [] ls st h)) ∧
  (∀ (ls : zL) (st : zS) (h : zH), zx 227 18 ls st h = zgo 227 (zpure (.sipush (-1002)) 21 0 [] ls st h)) ∧
  (∀ (ls : zL) (st : zS) (h : zH), zx 227 21 ls st h = zret 0 st h) ∧
  (∀ (ls : zL) (st : zS) (h : zH), zx 227 22 ls st h = zgo 227 (zpure (.astore 5) 24 0 [] ls st h)) ∧
  (∀ (ls : zL) (st : zS) (h : zH), zx 227 24 ls st h = zgo 227 (zpure (.sipush (-1003)) 27 0 [] ls st h)) ∧
  (∀ (ls : zL) (st : zS) (h : zH), zx 227 27 ls st h = zret 0 st h) :=
  ⟨zx_0 rfl, zx_0 rfl, zx_0 rfl, zx_0 rfl, zx_0 rfl, zx_2c rfl, zx_1 rfl, zx_0 rfl, zx_0 rfl, zx_1 rfl, zx_0 rfl, zx_0 rfl, zx_1 rfl, zx_0 rfl, zx_0 rfl, zx_1 rfl⟩
/-- L_fate -/
theorem z228 :
  (∀ (ls : zL) (st : zS) (h : zH), zx 228 0 ls st h = zgo 228 (zpure (.aload_n 0) 1 0 [] ls st h)) ∧
  (∀ (ls : zL) (st : zS) (h : zH), zx 228 1 ls st h = zgo 228 (zpure (.iload_n 1) 2 0 [] ls st h)) ∧
  (∀ (ls : zL) (st : zS) (h : zH), zx 228 2 ls st h = zca 228 2 5 ls 53 3 6 (ztake 2 st) h) ∧
  (∀ (ls : zL) (st : zS) (h : zH), zx 228 5 ls st h = zret 3 st h) ∧
  (∀ (ls : zL) (st : zS) (h : zH), zx 228 6 ls st h = zgo 228 (zpure (.astore_n 2) 7 0 [] ls st h)) ∧
  (∀ (ls : zL) (st : zS) (h : zH), zx 228 7 ls st h = zgo 228 (zpure (.bipush 45) 9 0 [] ls st h)) ∧
  (∀ (ls : zL) (st : zS) (h : zH), zx 228 9 ls st h = zret 3 st h) :=
  ⟨zx_0 rfl, zx_0 rfl, zx_2c rfl, zx_1 rfl, zx_0 rfl, zx_0 rfl, zx_1 rfl⟩
/-- L_time -/
theorem z229 :
  (∀ (ls : zL) (st : zS) (h : zH), zx 229 0 ls st h = zgo 229 (zpure (.iload_n 2) 1 0 [] ls st h)) ∧
  (∀ (ls : zL) (st : zS) (h : zH), zx 229 1 ls st h = zgo 229 (zpure (.iconst (-1)) 2 0 [] ls st h)) ∧
  (∀ (ls : zL) (st : zS) (h : zH), zx 229 2 ls st h = zgo 229 (zpure (.if_icmp .ne 11) 5 13 [] ls st h)) ∧
  (∀ (ls : zL) (st : zS) (h : zH), zx 229 5 ls st h = zgo 229 (zpure (.aload_n 0) 6 0 [] ls st h)) ∧
  (∀ (ls : zL) (st : zS) (h : zH), zx 229 6 ls st h = zgo 229 (zpure (.iload_n 1) 7 0 [] ls st h)) ∧
  (∀ (ls : zL) (st : zS) (h : zH), zx 229 7 ls st h = zca 229 7 10 ls 54 2 6 (ztake 2 st) h) ∧
  (∀ (ls : zL) (st : zS) (h : zH), zx 229 10 ls st h = zgo 229 (zpure (.goto 23) 13 33 [] ls st h)) ∧
  (∀ (ls : zL) (st : zS) (h : zH), zx 229 13 ls st h = zgo 229 (zpure (.iload_n 2) 14 0 [] ls st h)) ∧
  (∀ (ls : zL) (st : zS) (h : zH), zx 229 14 ls st h = zgo 229 (zpure (.bipush (-2)) 16 0 [] ls st h)) ∧
  (∀ (ls : zL) (st : zS) (h : zH), zx 229 16 ls st h = zgo 229 (zpure (.if_icmp .ne 11) 19 27 [] ls st h)) ∧
  (∀ (ls : zL) (st : zS) (h : zH), zx 229 19 ls st h = zgo 229 (zpure (.aload_n 0) 20 0 [] ls st h)) ∧
  (∀ (ls : zL) (st : zS) (h : zH), zx 229 20 ls st h = zgo 229 (zpure (.iload_n 1) 21 0 [] ls st h)) ∧
  (∀ (ls : zL) (st : zS) (h : zH), zx 229 21 ls st h = zca 229 21 24 ls 55 2 6 (ztake 2 st) h) ∧
  (∀ (ls : zL) (st : zS) (h : zH), zx 229 24 ls st h = zgo 229 (zpure (.goto 9) 27 33 [] ls st h)) ∧
  (∀ (ls : zL) (st : zS) (h : zH), zx 229 27 ls st h = zgo 229 (zpure (.aload_n 0) 28 0 [] ls st h)) ∧
  (∀ (ls : zL) (st : zS) (h : zH), zx 229 28 ls st h = zgo 229 (zpure (.iload_n 1) 29 0 [] ls st h)) ∧
  (∀ (ls : zL) (st : zS) (h : zH), zx 229 29 ls st h = zgo 229 (zpure (.iload_n 2) 30 0 [] ls st h)) ∧
  (∀ (ls : zL) (st : zS) (h : zH), zx 229 30 ls st h = zca 229 30 33 ls 64 6 6 (ztake 3 st) h) ∧
  (∀ (ls : zL) (st : zS) (h : zH), zx 229 33 ls st h = zret 0 st h) ∧
  (∀ (ls : zL) (st : zS) (h : zH), zx 229 34 ls st h = zgo 229 (zpure (.astore_n 3) 35 0 [] ls st h)) ∧
  (∀ (ls : zL) (st : zS) (h : zH), zx 229 35 ls st h = zgo 229 (zpure (.sipush (-1001)) 38 0 [] ls st h)) ∧
  (∀ (ls : zL) (st : zS) (h : zH), zx 229 38 ls st h = zret 0 st h) ∧
  (∀ (ls : zL) (st : zS) (h : zH), zx 229 39 ls st h = zgo 229 (zpure (.astore_n 3) 40 0 [] ls st h)) ∧
  (∀ (ls : zL) (st : zS) (h : zH), zx 229 40 ls st h = zgo 229 (zpure (.sipush (-1002)) 43 0 [] ls st h)) ∧
  (∀ (ls : zL) (st : zS) (h : zH), zx 229 43 ls st h = zret 0 st h) :=
  ⟨zx_0 rfl, zx_0 rfl, zx_0 rfl, zx_0 rfl, zx_0 rfl, zx_2c rfl, zx_0 rfl, zx_0 rfl, zx_0 rfl, zx_0 rfl, zx_0 rfl, zx_0 rfl, zx_2c rfl, zx_0 rfl, zx_0 rfl, zx_0 rfl, zx_0 rfl, zx_2c rfl, zx_1 rfl, zx_0 rfl, zx_0 rfl, zx_1 rfl, zx_0 rfl, zx_0 rfl, zx_1 rfl⟩
/-- L_span -/
theorem z230 :
  (∀ (ls : zL) (st : zS) (h : zH), zx 230 0 ls st h = zgo 230 (zpure (.iload_n 2) 1 0 [] ls st h)) ∧
  (∀ (ls : zL) (st : zS) (h : zH), zx 230 1 ls st h = zgo 230 (zpure (.ifCond .ne 11) 4 12 [] ls st h)) ∧
  (∀ (ls : zL) (st : zS) (h : zH), zx 230 4 ls st h = zgo 230 (zpure (.aload_n 0) 5 0 [] ls st h)) ∧
  (∀ (ls : zL) (st : zS) (h : zH), zx 230 5 ls st h = zgo 230 (zpure (.iload_n 1) 6 0 [] ls st h)) ∧
  (∀ (ls : zL) (st : zS) (h : zH), zx 230 6 ls st h = zca 230 6 9 ls 57 2 6 (ztake 2 st) h) ∧
  (∀ (ls : zL) (st : zS) (h : zH), zx 230 9 ls st h = zgo 230 (zpure (.goto 47) 12 56 [] ls st h)) ∧
  (∀ (ls : zL) (st : zS) (h : zH), zx 230 12 ls st h = zgo 230 (zpure (.iload_n 2) 13 0 [] ls st h)) ∧
  (∀ (ls : zL) (st : zS) (h : zH), zx 230 13 ls st h = zgo 230 (zpure (.iconst 1) 14 0 [] ls st h)) ∧
  (∀ (ls : zL) (st : zS) (h : zH), zx 230 14 ls st h = zgo 230 (zpure (.if_icmp .ne 11) 17 25 [] ls st h)) ∧
  (∀ (ls : zL) (st : zS) (h : zH), zx 230 17 ls st h = zgo 230 (zpure (.aload_n 0) 18 0 [] ls st h)) ∧
  (∀ (ls : zL) (st : zS) (h : zH), zx 230 18 ls st h = zgo 230 (zpure (.iload_n 1) 19 0 [] ls st h)) ∧
  (∀ (ls : zL) (st : zS) (h : zH), zx 230 19 ls st h = zca 230 19 22 ls 58 2 6 (ztake 2 st) h) ∧
  (∀ (ls : zL) (st : zS) (h : zH), zx 230 22 ls st h = zgo 230 (zpure (.goto 34) 25 56 [] ls st h)) ∧
  (∀ (ls : zL) (st : zS) (h : zH), zx 230 25 ls st h = zgo 230 (zpure (.iload_n 2) 26 0 [] ls st h)) ∧
  (∀ (ls : zL) (st : zS) (h : zH), zx 230 26 ls st h = zgo 230 (zpure (.iconst 2) 27 0 [] ls st h)) ∧
  (∀ (ls : zL) (st : zS) (h : zH), zx 230 27 ls st h = zgo 230 (zpure (.if_icmp .ne 11) 30 38 [] ls st h)) ∧
  (∀ (ls : zL) (st : zS) (h : zH), zx 230 30 ls st h = zgo 230 (zpure (.aload_n 0) 31 0 [] ls st h)) ∧
  (∀ (ls : zL) (st : zS) (h : zH), zx 230 31 ls st h = zgo 230 (zpure (.iload_n 1) 32 0 [] ls st h)) ∧
  (∀ (ls : zL) (st : zS) (h : zH), zx 230 32 ls st h = zca 230 32 35 ls 59 2 6 (ztake 2 st) h) ∧
  (∀ (ls : zL) (st : zS) (h : zH), zx 230 35 ls st h = zgo 230 (zpure (.goto 21) 38 56 [] ls st h)) ∧
  (∀ (ls : zL) (st : zS) (h : zH), zx 230 38 ls st h = zgo 230 (zpure (.iload_n 2) 39 0 [] ls st h)) ∧
  (∀ (ls : zL) (st : zS) (h : zH), zx 230 39 ls st h = zgo 230 (zpure (.iconst 3) 40 0 [] ls st h)) ∧
  (∀ (ls : zL) (st : zS) (h : zH), zx 230 40 ls st h = zgo 230 (zpure (.if_icmp .ne 11) 43 51 [] ls st h)) ∧
  (∀ (ls : zL) (st : zS) (h : zH), zx 230 43 ls st h = zgo 230 (zpure (.aload_n 0) 44 0 [] ls st h)) ∧
  (∀ (ls : zL) (st : zS) (h : zH), zx 230 44 ls st h = zgo 230 (zpure (.iload_n 1) 45 0 [] ls st h)) ∧
  (∀ (ls : zL) (st : zS) (h : zH), zx 230 45 ls st h = zca 230 45 48 ls 74 2 6 (ztake 2 st) h) ∧
  (∀ (ls : zL) (st : zS) (h : zH), zx 230 48 ls st h = zgo 230 (zpure (.goto 8) 51 56 [] ls st h)) ∧
  (∀ (ls : zL) (st : zS) (h : zH), zx 230 51 ls st h = zgo 230 (zpure (.aload_n 0) 52 0 [] ls st h)) ∧
  (∀ (ls : zL) (st : zS) (h : zH), zx 230 52 ls st h = zgo 230 (zpure (.iload_n 1) 53 0 [] ls st h)) ∧
  (∀ (ls : zL) (st : zS) (h : zH), zx 230 53 ls st h = zca 230 53 56 ls 75 2 6 (ztake 2 st) h) ∧
  (∀ (ls : zL) (st : zS) (h : zH), zx 230 56 ls st h = zret 0 st h) ∧
  (∀ (ls : zL) (st : zS) (h : zH), zx 230 57 ls st h = zgo 230 (zpure (.astore_n 3) 58 0 [] ls st h)) ∧
  (∀ (ls : zL) (st : zS) (h : zH), zx 230 58 ls st h = zgo 230 (zpure (.sipush (-1001)) 61 0 [] ls st h)) ∧
  (∀ (ls : zL) (st : zS) (h : zH), zx 230 61 ls st h = zret 0 st h) :=
  ⟨zx_0 rfl, zx_0 rfl, zx_0 rfl, zx_0 rfl, zx_2c rfl, zx_0 rfl, zx_0 rfl, zx_0 rfl, zx_0 rfl, zx_0 rfl, zx_0 rfl, zx_2c rfl, zx_0 rfl, zx_0 rfl, zx_0 rfl, zx_0 rfl, zx_0 rfl, zx_0 rfl, zx_2c rfl, zx_0 rfl, zx_0 rfl, zx_0 rfl, zx_0 rfl, zx_0 rfl, zx_0 rfl, zx_2c rfl, zx_0 rfl, zx_0 rfl, zx_0 rfl, zx_2c rfl, zx_1 rfl, zx_0 rfl, zx_0 rfl, zx_1 rfl⟩
/-- L_at -/
theorem z231 :
  (∀ (ls : zL) (st : zS) (h : zH), zx 231 0 ls st h = zgo 231 (zpure (.iload_n 2) 1 0 [] ls st h)) ∧
  (∀ (ls : zL) (st : zS) (h : zH), zx 231 1 ls st h = zgo 231 (zpure (.ifCond .ne 11) 4 12 [] ls st h)) ∧
  (∀ (ls : zL) (st : zS) (h : zH), zx 231 4 ls st h = zgo 231 (zpure (.aload_n 0) 5 0 [] ls st h)) ∧
  (∀ (ls : zL) (st : zS) (h : zH), zx 231 5 ls st h = zgo 231 (zpure (.iload_n 1) 6 0 [] ls st h)) ∧
  (∀ (ls : zL) (st : zS) (h : zH), zx 231 6 ls st h = zca 231 6 9 ls 60 2 6 (ztake 2 st) h) ∧
  (∀ (ls : zL) (st : zS) (h : zH), zx 231 9 ls st h = zgo 231 (zpure (.goto 21) 12 30 [] ls st h)) ∧
  (∀ (ls : zL) (st : zS) (h : zH), zx 231 12 ls st h = zgo 231 (zpure (.iload_n 2) 13 0 [] ls st h)) ∧
  (∀ (ls : zL) (st : zS) (h : zH), zx 231 13 ls st h = zgo 231 (zpure (.iconst 1) 14 0 [] ls st h)) ∧
  (∀ (ls : zL) (st : zS) (h : zH), zx 231 14 ls st h = zgo 231 (zpure (.if_icmp .ne 11) 17 25 [] ls st h)) ∧
  (∀ (ls : zL) (st : zS) (h : zH), zx 231 17 ls st h = zgo 231 (zpure (.aload_n 0) 18 0 [] ls st h)) ∧
  (∀ (ls : zL) (st : zS) (h : zH), zx 231 18 ls st h = zgo 231 (zpure (.iload_n 1) 19 0 [] ls st h)) ∧
  (∀ (ls : zL) (st : zS) (h : zH), zx 231 19 ls st h = zca 231 19 22 ls 61 2 6 (ztake 2 st) h) ∧
  (∀ (ls : zL) (st : zS) (h : zH), zx 231 22 ls st h = zgo 231 (zpure (.goto 8) 25 30 [] ls st h)) ∧
  (∀ (ls : zL) (st : zS) (h : zH), zx 231 25 ls st h = zgo 231 (zpure (.aload_n 0) 26 0 [] ls st h)) ∧
  (∀ (ls : zL) (st : zS) (h : zH), zx 231 26 ls st h = zgo 231 (zpure (.iload_n 1) 27 0 [] ls st h)) ∧
  (∀ (ls : zL) (st : zS) (h : zH), zx 231 27 ls st h = zca 231 27 30 ls 63 4 6 (ztake 2 st) h) ∧
  (∀ (ls : zL) (st : zS) (h : zH), zx 231 30 ls st h = zret 0 st h) ∧
  (∀ (ls : zL) (st : zS) (h : zH), zx 231 31 ls st h = zgo 231 (zpure (.astore_n 3) 32 0 [] ls st h)) ∧
  (∀ (ls : zL) (st : zS) (h : zH), zx 231 32 ls st h = zgo 231 (zpure (.sipush (-1001)) 35 0 [] ls st h)) ∧
  (∀ (ls : zL) (st : zS) (h : zH), zx 231 35 ls st h = zret 0 st h) :=
  ⟨zx_0 rfl, zx_0 rfl, zx_0 rfl, zx_0 rfl, zx_2c rfl, zx_0 rfl, zx_0 rfl, zx_0 rfl, zx_0 rfl, zx_0 rfl, zx_0 rfl, zx_2c rfl, zx_0 rfl, zx_0 rfl, zx_0 rfl, zx_2c rfl, zx_1 rfl, zx_0 rfl, zx_0 rfl, zx_1 rfl⟩
/-- L_fill -/
theorem z232 :
  (∀ (ls : zL) (st : zS) (h : zH), zx 232 0 ls st h = zgo 232 (zpure (.iload_n 3) 1 0 [] ls st h)) ∧
  (∀ (ls : zL) (st : zS) (h : zH), zx 232 1 ls st h = zgo 232 (zpure (.iconst (-1)) 2 0 [] ls st h)) ∧
  (∀ (ls : zL) (st : zS) (h : zH), zx 232 2 ls st h = zgo 232 (zpure (.if_icmp .ne 12) 5 14 [] ls st h)) ∧
  (∀ (ls : zL) (st : zS) (h : zH), zx 232 5 ls st h = zgo 232 (zpure (.aload_n 0) 6 0 [] ls st h)) ∧
  (∀ (ls : zL) (st : zS) (h : zH), zx 232 6 ls st h = zgo 232 (zpure (.iload_n 1) 7 0 [] ls st h)) ∧
  (∀ (ls : zL) (st : zS) (h : zH), zx 232 7 ls st h = zgo 232 (zpure (.iload_n 2) 8 0 [] ls st h)) ∧
  (∀ (ls : zL) (st : zS) (h : zH), zx 232 8 ls st h = zca 232 8 11 ls 67 3 6 (ztake 3 st) h) ∧
  (∀ (ls : zL) (st : zS) (h : zH), zx 232 11 ls st h = zgo 232 (zpure (.goto 25) 14 36 [] ls st h)) ∧
  (∀ (ls : zL) (st : zS) (h : zH), zx 232 14 ls st h = zgo 232 (zpure (.iload_n 3) 15 0 [] ls st h)) ∧
  (∀ (ls : zL) (st : zS) (h : zH), zx 232 15 ls st h = zgo 232 (zpure (.bipush (-2)) 17 0 [] ls st h)) ∧
  (∀ (ls : zL) (st : zS) (h : zH), zx 232 17 ls st h = zgo 232 (zpure (.if_icmp .ne 12) 20 29 [] ls st h)) ∧
  (∀ (ls : zL) (st : zS) (h : zH), zx 232 20 ls st h = zgo 232 (zpure (.aload_n 0) 21 0 [] ls st h)) ∧
  (∀ (ls : zL) (st : zS) (h : zH), zx 232 21 ls st h = zgo 232 (zpure (.iload_n 1) 22 0 [] ls st h)) ∧
  (∀ (ls : zL) (st : zS) (h : zH), zx 232 22 ls st h = zgo 232 (zpure (.iload_n 2) 23 0 [] ls st h)) ∧
  (∀ (ls : zL) (st : zS) (h : zH), zx 232 23 ls st h = zca 232 23 26 ls 68 4 6 (ztake 3 st) h) ∧
  (∀ (ls : zL) (st : zS) (h : zH), zx 232 26 ls st h = zgo 232 (zpure (.goto 10) 29 36 [] ls st h)) ∧
  (∀ (ls : zL) (st : zS) (h : zH), zx 232 29 ls st h = zgo 232 (zpure (.aload_n 0) 30 0 [] ls st h)) ∧
  (∀ (ls : zL) (st : zS) (h : zH), zx 232 30 ls st h = zgo 232 (zpure (.iload_n 1) 31 0 [] ls st h)) ∧
  (∀ (ls : zL) (st : zS) (h : zH), zx 232 31 ls st h = zgo 232 (zpure (.iload_n 2) 32 0 [] ls st h)) ∧
  (∀ (ls : zL) (st : zS) (h : zH), zx 232 32 ls st h = zgo 232 (zpure (.iload_n 3) 33 0 [] ls st h)) ∧
  (∀ (ls : zL) (st : zS) (h : zH), zx 232 33 ls st h = zca 232 33 36 ls 69 7 6 (ztake 4 st) h) ∧
  (∀ (ls : zL) (st : zS) (h : zH), zx 232 36 ls st h = zret 0 st h) ∧
  (∀ (ls : zL) (st : zS) (h : zH), zx 232 37 ls st h = zgo 232 (zpure (.astore 4) 39 0 [] ls st h)) ∧
  (∀ (ls : zL) (st : zS) (h : zH), zx 232 39 ls st h = zgo 232 (zpure (.sipush (-1001)) 42 0 [] ls st h)) ∧
  (∀ (ls : zL) (st : zS) (h : zH), zx 232 42 ls st h = zret 0 st h) ∧
  (∀ (ls : zL) (st : zS) (h : zH), zx 232 43 ls st h = zgo 232 (zpure (.astore 4) 45 0 [] ls st h)) ∧
  (∀ (ls : zL) (st : zS) (h : zH), zx 232 45 ls st h = zgo 232 (zpure (.sipush (-1002)) 48 0 [] ls st h)) ∧
  (∀ (ls : zL) (st : zS) (h : zH), zx 232 48 ls st h = zret 0 st h) :=
  ⟨zx_0 rfl, zx_0 rfl, zx_0 rfl, zx_0 rfl, zx_0 rfl, zx_0 rfl, zx_2c rfl, zx_0 rfl, zx_0 rfl, zx_0 rfl, zx_0 rfl, zx_0 rfl, zx_0 rfl, zx_0 rfl, zx_2c rfl, zx_0 rfl, zx_0 rfl, zx_0 rfl, zx_0 rfl, zx_0 rfl, zx_2c rfl, zx_1 rfl, zx_0 rfl, zx_0 rfl, zx_1 rfl, zx_0 rfl, zx_0 rfl, zx_1 rfl⟩
/-- L_off -/
theorem z233 :
  (∀ (ls : zL) (st : zS) (h : zH), zx 233 0 ls st h = zgo 233 (zpure (.aload_n 0) 1 0 [] ls st h)) ∧
  (∀ (ls : zL) (st : zS) (h : zH), zx 233 1 ls st h = zgo 233 (zpure (.iload_n 1) 2 0 [] ls st h)) ∧
  (∀ (ls : zL) (st : zS) (h : zH), zx 233 2 ls st h = zgo 233 (zpure (.iload_n 2) 3 0 [] ls st h)) ∧
  (∀ (ls : zL) (st : zS) (h : zH), zx 233 3 ls st h = zca 233 3 6 ls 70 3 6 (ztake 3 st) h) ∧
  (∀ (ls : zL) (st : zS) (h : zH), zx 233 6 ls st h = zret 5 st h) ∧
  (∀ (ls : zL) (st : zS) (h : zH), zx 233 7 ls st h = zgo 233 (zpure (.astore_n 3) 8 0 [] ls st h)) ∧
  (∀ (ls : zL) (st : zS) (h : zH), zx 233 8 ls st h = zgo 233 (zpure (.ldc 106) 10 0 [1, 3212836864] ls st h)) ∧
  (∀ (ls : zL) (st : zS) (h : zH), zx 233 10 ls st h = zret 5 st h) ∧
  (∀ (ls : zL) (st : zS) (h : zH), zx 233 11 ls st h = zgo 233 (zpure (.astore_n 3) 12 0 [] ls st h)) ∧
  (∀ (ls : zL) (st : zS) (h : zH), zx 233 12 ls st h = zgo 233 (zpure (.ldc 107) 14 0 [1, 3221225472] ls st h)) ∧
  (∀ (ls : zL) (st : zS) (h : zH), zx 233 14 ls st h = zret 5 st h) :=
  ⟨zx_0 rfl, zx_0 rfl, zx_0 rfl, zx_2c rfl, zx_1 rfl, zx_0 rfl, zx_0 rfl, zx_1 rfl, zx_0 rfl, zx_0 rfl, zx_1 rfl⟩
/-- L_mean -/
theorem z234 :
  (∀ (ls : zL) (st : zS) (h : zH), zx 234 0 ls st h = zgo 234 (zpure (.aload_n 0) 1 0 [] ls st h)) ∧
  (∀ (ls : zL) (st : zS) (h : zH), zx 234 1 ls st h = zca 234 1 4 ls 65 1 6 (ztake 1 st) h) ∧
  (∀ (ls : zL) (st : zS) (h : zH), zx 234 4 ls st h = zret 5 st h) ∧
  (∀ (ls : zL) (st : zS) (h : zH), zx 234 5 ls st h = zgo 234 (zpure (.astore_n 1) 6 0 [] ls st h)) ∧
  (∀ (ls : zL) (st : zS) (h : zH), zx 234 6 ls st h = zgo 234 (zpure (.ldc 112) 8 0 [1, 1091567616] ls st h)) ∧
  (∀ (ls : zL) (st : zS) (h : zH), zx 234 8 ls st h = zret 5 st h) :=
  ⟨zx_0 rfl, zx_2c rfl, zx_1 rfl, zx_0 rfl, zx_0 rfl, zx_1 rfl⟩
/-- L_bits -/
theorem z235 :
  (∀ (ls : zL) (st : zS) (h : zH), zx 235 0 ls st h = zgo 235 (zpure (.aload_n 0) 1 0 [] ls st h)) ∧
  (∀ (ls : zL) (st : zS) (h : zH), zx 235 1 ls st h = zca 235 1 4 ls 66 1 6 (ztake 1 st) h) ∧
  (∀ (ls : zL) (st : zS) (h : zH), zx 235 4 ls st h = zret 0 st h) ∧
  (∀ (ls : zL) (st : zS) (h : zH), zx 235 5 ls st h = zgo 235 (zpure (.astore_n 1) 6 0 [] ls st h)) ∧
  (∀ (ls : zL) (st : zS) (h : zH), zx 235 6 ls st h = zgo 235 (zpure (.sipush (-1001)) 9 0 [] ls st h)) ∧
  (∀ (ls : zL) (st : zS) (h : zH), zx 235 9 ls st h = zret 0 st h) :=
  ⟨zx_0 rfl, zx_2c rfl, zx_1 rfl, zx_0 rfl, zx_0 rfl, zx_1 rfl⟩
/-- L_air -/
theorem z236 :
  (∀ (ls : zL) (st : zS) (h : zH), zx 236 0 ls st h = zgo 236 (zpure (.aload_n 0) 1 0 [] ls st h)) ∧
  (∀ (ls : zL) (st : zS) (h : zH), zx 236 1 ls st h = zca 236 1 4 ls 71 1 6 (ztake 1 st) h) ∧
  (∀ (ls : zL) (st : zS) (h : zH), zx 236 4 ls st h = zret 0 st h) ∧
  (∀ (ls : zL) (st : zS) (h : zH), zx 236 5 ls st h = zgo 236 (zpure (.astore_n 1) 6 0 [] ls st h)) ∧
  (∀ (ls : zL) (st : zS) (h : zH), zx 236 6 ls st h = zgo 236 (zpure (.sipush (-1001)) 9 0 [] ls st h)) ∧
  (∀ (ls : zL) (st : zS) (h : zH), zx 236 9 ls st h = zret 0 st h) :=
  ⟨zx_0 rfl, zx_2c rfl, zx_1 rfl, zx_0 rfl, zx_0 rfl, zx_1 rfl⟩
/-- L_apart -/
theorem z237 :
  (∀ (ls : zL) (st : zS) (h : zH), zx 237 0 ls st h = zgo 237 (zpure (.aload_n 0) 1 0 [] ls st h)) ∧
  (∀ (ls : zL) (st : zS) (h : zH), zx 237 1 ls st h = zca 237 1 4 ls 76 1 6 (ztake 1 st) h) ∧
  (∀ (ls : zL) (st : zS) (h : zH), zx 237 4 ls st h = zret 0 st h) ∧
  (∀ (ls : zL) (st : zS) (h : zH), zx 237 5 ls st h = zgo 237 (zpure (.astore_n 1) 6 0 [] ls st h)) ∧
  (∀ (ls : zL) (st : zS) (h : zH), zx 237 6 ls st h = zgo 237 (zpure (.sipush (-1001)) 9 0 [] ls st h)) ∧
  (∀ (ls : zL) (st : zS) (h : zH), zx 237 9 ls st h = zret 0 st h) :=
  ⟨zx_0 rfl, zx_2c rfl, zx_1 rfl, zx_0 rfl, zx_0 rfl, zx_1 rfl⟩
/-- L_aired -/
theorem z238 :
  (∀ (ls : zL) (st : zS) (h : zH), zx 238 0 ls st h = zgo 238 (zpure (.aload_n 0) 1 0 [] ls st h)) ∧
  (∀ (ls : zL) (st : zS) (h : zH), zx 238 1 ls st h = zgo 238 (zpure (.iload_n 1) 2 0 [] ls st h)) ∧
  (∀ (ls : zL) (st : zS) (h : zH), zx 238 2 ls st h = zca 238 2 5 ls 77 2 6 (ztake 2 st) h) ∧
  (∀ (ls : zL) (st : zS) (h : zH), zx 238 5 ls st h = zret 4 st h) ∧
  (∀ (ls : zL) (st : zS) (h : zH), zx 238 6 ls st h = zgo 238 (zpure (.astore_n 2) 7 0 [] ls st h)) ∧
  (∀ (ls : zL) (st : zS) (h : zH), zx 238 7 ls st h = zgo 238 (zpure (.ldc2_w 127) 10 0 [18446744073709550615] ls st h)) ∧
  (∀ (ls : zL) (st : zS) (h : zH), zx 238 10 ls st h = zret 4 st h) :=
  ⟨zx_0 rfl, zx_0 rfl, zx_2c rfl, zx_1 rfl, zx_0 rfl, zx_0 rfl, zx_1 rfl⟩
theorem z239_2 : ∀ (ls : zL) (st : zS) (h : zH), zx 239 2 ls st h = zgo 239 (zpure (.iload_n 1) 3 0 [] ls st h) := zx_0 rfl
/-- L_clips -/
theorem z239 :
  (∀ (ls : zL) (st : zS) (h : zH), zx 239 0 ls st h = zgo 239 (zpure (.iconst 0) 1 0 [] ls st h)) ∧
  (∀ (ls : zL) (st : zS) (h : zH), zx 239 1 ls st h = zgo 239 (zpure (.istore_n 1) 2 0 [] ls st h)) ∧
  (∀ (ls : zL) (st : zS) (h : zH), zx 239 3 ls st h = zgo 239 (zpure (.bipush 12) 5 0 [] ls st h)) ∧
  (∀ (ls : zL) (st : zS) (h : zH), zx 239 5 ls st h = zgo 239 (zpure (.if_icmp .ge 19) 8 24 [] ls st h)) ∧
  (∀ (ls : zL) (st : zS) (h : zH), zx 239 8 ls st h = zgo 239 (zpure (.aload_n 0) 9 0 [] ls st h)) ∧
  (∀ (ls : zL) (st : zS) (h : zH), zx 239 9 ls st h = zgo 239 (zpure (.iload_n 1) 10 0 [] ls st h)) ∧
  (∀ (ls : zL) (st : zS) (h : zH), zx 239 10 ls st h = zca 239 10 13 ls 238 3 0 (ztake 2 st) h) ∧
  (∀ (ls : zL) (st : zS) (h : zH), zx 239 13 ls st h = zgo 239 (zpure (.lconst 0) 14 0 [] ls st h)) ∧
  (∀ (ls : zL) (st : zS) (h : zH), zx 239 14 ls st h = zgo 239 (zpure .lcmp 15 0 [] ls st h)) ∧
  (∀ (ls : zL) (st : zS) (h : zH), zx 239 15 ls st h = zgo 239 (zpure (.ifCond .lt 9) 18 24 [] ls st h)) ∧
  (∀ (ls : zL) (st : zS) (h : zH), zx 239 18 ls st h = zgo 239 (zpure (.iinc 1 1) 21 0 [] ls st h)) ∧
  (∀ (ls : zL) (st : zS) (h : zH), zx 239 21 ls st h = zgo 239 (zpure (.goto (-19)) 24 2 [] ls st h)) ∧
  (∀ (ls : zL) (st : zS) (h : zH), zx 239 24 ls st h = zgo 239 (zpure (.iload_n 1) 25 0 [] ls st h)) ∧
  (∀ (ls : zL) (st : zS) (h : zH), zx 239 25 ls st h = zret 0 st h) :=
  ⟨zx_0 rfl, zx_0 rfl, zx_0 rfl, zx_0 rfl, zx_0 rfl, zx_0 rfl, zx_2c rfl, zx_0 rfl, zx_0 rfl, zx_0 rfl, zx_0 rfl, zx_0 rfl, zx_0 rfl, zx_1 rfl⟩
theorem z240_54 : ∀ (ls : zL) (st : zS) (h : zH), zx 240 54 ls st h = zgo 240 (zpure (.iload_n 3) 55 0 [] ls st h) := zx_0 rfl
theorem z240_133 : ∀ (ls : zL) (st : zS) (h : zH), zx 240 133 ls st h = zgo 240 (zpure (.iload_n 3) 134 0 [] ls st h) := zx_0 rfl
theorem z240_175 : ∀ (ls : zL) (st : zS) (h : zH), zx 240 175 ls st h = zgo 240 (zpure (.iload_n 3) 176 0 [] ls st h) := zx_0 rfl
set_option maxRecDepth 4000 in
theorem z240_b0 :
  (∀ (ls : zL) (st : zS) (h : zH), zx 240 0 ls st h = zgo 240 (zpure (.aload_n 0) 1 0 [] ls st h)) ∧
  (∀ (ls : zL) (st : zS) (h : zH), zx 240 1 ls st h = zca 240 1 4 ls 51 1 6 (ztake 1 st) h) ∧
  (∀ (ls : zL) (st : zS) (h : zH), zx 240 4 ls st h = zgo 240 (zpure .i2l 5 0 [] ls st h)) ∧
  (∀ (ls : zL) (st : zS) (h : zH), zx 240 5 ls st h = zgo 240 (zpure (.ldc2_w 137) 8 0 [31] ls st h)) ∧
  (∀ (ls : zL) (st : zS) (h : zH), zx 240 8 ls st h = zgo 240 (zpure (.aload_n 0) 9 0 [] ls st h)) ∧
  (∀ (ls : zL) (st : zS) (h : zH), zx 240 9 ls st h = zca 240 9 12 ls 56 1 6 (ztake 1 st) h) ∧
  (∀ (ls : zL) (st : zS) (h : zH), zx 240 12 ls st h = zgo 240 (zpure .i2l 13 0 [] ls st h)) ∧
  (∀ (ls : zL) (st : zS) (h : zH), zx 240 13 ls st h = zgo 240 (zpure .lmul 14 0 [] ls st h)) ∧
  (∀ (ls : zL) (st : zS) (h : zH), zx 240 14 ls st h = zgo 240 (zpure .ladd 15 0 [] ls st h)) ∧
  (∀ (ls : zL) (st : zS) (h : zH), zx 240 15 ls st h = zgo 240 (zpure (.ldc2_w 142) 18 0 [961] ls st h)) ∧
  (∀ (ls : zL) (st : zS) (h : zH), zx 240 18 ls st h = zgo 240 (zpure (.aload_n 0) 19 0 [] ls st h)) ∧
  (∀ (ls : zL) (st : zS) (h : zH), zx 240 19 ls st h = zca 240 19 22 ls 72 1 6 (ztake 1 st) h) ∧
  (∀ (ls : zL) (st : zS) (h : zH), zx 240 22 ls st h = zgo 240 (zpure .i2l 23 0 [] ls st h)) ∧
  (∀ (ls : zL) (st : zS) (h : zH), zx 240 23 ls st h = zgo 240 (zpure .lmul 24 0 [] ls st h)) ∧
  (∀ (ls : zL) (st : zS) (h : zH), zx 240 24 ls st h = zgo 240 (zpure .ladd 25 0 [] ls st h)) ∧
  (∀ (ls : zL) (st : zS) (h : zH), zx 240 25 ls st h = zgo 240 (zpure (.ldc2_w 147) 28 0 [7] ls st h)) ∧
  (∀ (ls : zL) (st : zS) (h : zH), zx 240 28 ls st h = zgo 240 (zpure (.aload_n 0) 29 0 [] ls st h)) ∧
  (∀ (ls : zL) (st : zS) (h : zH), zx 240 29 ls st h = zca 240 29 32 ls 62 3 6 (ztake 1 st) h) ∧
  (∀ (ls : zL) (st : zS) (h : zH), zx 240 32 ls st h = zgo 240 (zpure .i2l 33 0 [] ls st h)) ∧
  (∀ (ls : zL) (st : zS) (h : zH), zx 240 33 ls st h = zgo 240 (zpure .lmul 34 0 [] ls st h)) ∧
  (∀ (ls : zL) (st : zS) (h : zH), zx 240 34 ls st h = zgo 240 (zpure .ladd 35 0 [] ls st h)) ∧
  (∀ (ls : zL) (st : zS) (h : zH), zx 240 35 ls st h = zgo 240 (zpure (.ldc2_w 152) 38 0 [11] ls st h)) ∧
  (∀ (ls : zL) (st : zS) (h : zH), zx 240 38 ls st h = zgo 240 (zpure (.aload_n 0) 39 0 [] ls st h)) ∧
  (∀ (ls : zL) (st : zS) (h : zH), zx 240 39 ls st h = zca 240 39 42 ls 73 1 6 (ztake 1 st) h) ∧
  (∀ (ls : zL) (st : zS) (h : zH), zx 240 42 ls st h = zgo 240 (zpure .i2l 43 0 [] ls st h)) ∧
  (∀ (ls : zL) (st : zS) (h : zH), zx 240 43 ls st h = zgo 240 (zpure .lmul 44 0 [] ls st h)) ∧
  (∀ (ls : zL) (st : zS) (h : zH), zx 240 44 ls st h = zgo 240 (zpure .ladd 45 0 [] ls st h)) ∧
  (∀ (ls : zL) (st : zS) (h : zH), zx 240 45 ls st h = zgo 240 (zpure (.aload_n 0) 46 0 [] ls st h)) ∧
  (∀ (ls : zL) (st : zS) (h : zH), zx 240 46 ls st h = zca 240 46 49 ls 235 2 0 (ztake 1 st) h) ∧
  (∀ (ls : zL) (st : zS) (h : zH), zx 240 49 ls st h = zgo 240 (zpure .i2l 50 0 [] ls st h)) ∧
  (∀ (ls : zL) (st : zS) (h : zH), zx 240 50 ls st h = zgo 240 (zpure .ladd 51 0 [] ls st h)) ∧
  (∀ (ls : zL) (st : zS) (h : zH), zx 240 51 ls st h = zgo 240 (zpure (.lstore_n 1) 52 0 [] ls st h)) ∧
  (∀ (ls : zL) (st : zS) (h : zH), zx 240 52 ls st h = zgo 240 (zpure (.iconst 0) 53 0 [] ls st h)) ∧
  (∀ (ls : zL) (st : zS) (h : zH), zx 240 53 ls st h = zgo 240 (zpure (.istore_n 3) 54 0 [] ls st h)) ∧
  (∀ (ls : zL) (st : zS) (h : zH), zx 240 55 ls st h = zgo 240 (zpure (.aload_n 0) 56 0 [] ls st h)) ∧
  (∀ (ls : zL) (st : zS) (h : zH), zx 240 56 ls st h = zca 240 56 59 ls 51 1 6 (ztake 1 st) h) ∧
  (∀ (ls : zL) (st : zS) (h : zH), zx 240 59 ls st h = zgo 240 (zpure (.if_icmp .ge 72) 62 131 [] ls st h)) ∧
  (∀ (ls : zL) (st : zS) (h : zH), zx 240 62 ls st h = zgo 240 (zpure (.ldc2_w 137) 65 0 [31] ls st h)) ∧
  (∀ (ls : zL) (st : zS) (h : zH), zx 240 65 ls st h = zgo 240 (zpure (.lload_n 1) 66 0 [] ls st h)) ∧
  (∀ (ls : zL) (st : zS) (h : zH), zx 240 66 ls st h = zgo 240 (zpure .lmul 67 0 [] ls st h)) ∧
  (∀ (ls : zL) (st : zS) (h : zH), zx 240 67 ls st h = zgo 240 (zpure (.aload_n 0) 68 0 [] ls st h)) ∧
  (∀ (ls : zL) (st : zS) (h : zH), zx 240 68 ls st h = zgo 240 (zpure (.iload_n 3) 69 0 [] ls st h)) ∧
  (∀ (ls : zL) (st : zS) (h : zH), zx 240 69 ls st h = zca 240 69 72 ls 228 3 0 (ztake 2 st) h) ∧
  (∀ (ls : zL) (st : zS) (h : zH), zx 240 72 ls st h = zgo 240 (zpure .i2l 73 0 [] ls st h)) ∧
  (∀ (ls : zL) (st : zS) (h : zH), zx 240 73 ls st h = zgo 240 (zpure .ladd 74 0 [] ls st h)) ∧
  (∀ (ls : zL) (st : zS) (h : zH), zx 240 74 ls st h = zgo 240 (zpure (.ldc2_w 164) 77 0 [3] ls st h)) ∧
  (∀ (ls : zL) (st : zS) (h : zH), zx 240 77 ls st h = zgo 240 (zpure (.aload_n 0) 78 0 [] ls st h)) ∧
  (∀ (ls : zL) (st : zS) (h : zH), zx 240 78 ls st h = zgo 240 (zpure (.iload_n 3) 79 0 [] ls st h)) ∧
  (∀ (ls : zL) (st : zS) (h : zH), zx 240 79 ls st h = zgo 240 (zpure (.iconst 0) 80 0 [] ls st h)) ∧
  (∀ (ls : zL) (st : zS) (h : zH), zx 240 80 ls st h = zgo 240 (zpure (.iconst 2) 81 0 [] ls st h)) ∧
  (∀ (ls : zL) (st : zS) (h : zH), zx 240 81 ls st h = zca 240 81 84 ls 225 5 0 (ztake 4 st) h) ∧
  (∀ (ls : zL) (st : zS) (h : zH), zx 240 84 ls st h = zgo 240 (zpure .i2l 85 0 [] ls st h)) ∧
  (∀ (ls : zL) (st : zS) (h : zH), zx 240 85 ls st h = zgo 240 (zpure .lmul 86 0 [] ls st h)) ∧
  (∀ (ls : zL) (st : zS) (h : zH), zx 240 86 ls st h = zgo 240 (zpure .ladd 87 0 [] ls st h)) ∧
  (∀ (ls : zL) (st : zS) (h : zH), zx 240 87 ls st h = zgo 240 (zpure (.ldc2_w 170) 90 0 [5] ls st h)) ∧
  (∀ (ls : zL) (st : zS) (h : zH), zx 240 90 ls st h = zgo 240 (zpure (.aload_n 0) 91 0 [] ls st h)) ∧
  (∀ (ls : zL) (st : zS) (h : zH), zx 240 91 ls st h = zgo 240 (zpure (.iload_n 3) 92 0 [] ls st h)) ∧
  (∀ (ls : zL) (st : zS) (h : zH), zx 240 92 ls st h = zgo 240 (zpure (.iconst (-1)) 93 0 [] ls st h)) ∧
  (∀ (ls : zL) (st : zS) (h : zH), zx 240 93 ls st h = zca 240 93 96 ls 229 4 0 (ztake 3 st) h) ∧
  (∀ (ls : zL) (st : zS) (h : zH), zx 240 96 ls st h = zgo 240 (zpure .i2l 97 0 [] ls st h)) :=
  ⟨zx_0 rfl, zx_2c rfl, zx_0 rfl, zx_0 rfl, zx_0 rfl, zx_2c rfl, zx_0 rfl, zx_0 rfl, zx_0 rfl, zx_0 rfl, zx_0 rfl, zx_2c rfl, zx_0 rfl, zx_0 rfl, zx_0 rfl, zx_0 rfl, zx_0 rfl, zx_2c rfl, zx_0 rfl, zx_0 rfl, zx_0 rfl, zx_0 rfl, zx_0 rfl, zx_2c rfl, zx_0 rfl, zx_0 rfl, zx_0 rfl, zx_0 rfl, zx_2c rfl, zx_0 rfl, zx_0 rfl, zx_0 rfl, zx_0 rfl, zx_0 rfl, zx_0 rfl, zx_2c rfl, zx_0 rfl, zx_0 rfl, zx_0 rfl, zx_0 rfl, zx_0 rfl, zx_0 rfl, zx_2c rfl, zx_0 rfl, zx_0 rfl, zx_0 rfl, zx_0 rfl, zx_0 rfl, zx_0 rfl, zx_0 rfl, zx_2c rfl, zx_0 rfl, zx_0 rfl, zx_0 rfl, zx_0 rfl, zx_0 rfl, zx_0 rfl, zx_0 rfl, zx_2c rfl, zx_0 rfl⟩
set_option maxRecDepth 4000 in
theorem z240_b1 :
  (∀ (ls : zL) (st : zS) (h : zH), zx 240 97 ls st h = zgo 240 (zpure .lmul 98 0 [] ls st h)) ∧
  (∀ (ls : zL) (st : zS) (h : zH), zx 240 98 ls st h = zgo 240 (zpure .ladd 99 0 [] ls st h)) ∧
  (∀ (ls : zL) (st : zS) (h : zH), zx 240 99 ls st h = zgo 240 (zpure (.ldc2_w 147) 102 0 [7] ls st h)) ∧
  (∀ (ls : zL) (st : zS) (h : zH), zx 240 102 ls st h = zgo 240 (zpure (.aload_n 0) 103 0 [] ls st h)) ∧
  (∀ (ls : zL) (st : zS) (h : zH), zx 240 103 ls st h = zgo 240 (zpure (.iload_n 3) 104 0 [] ls st h)) ∧
  (∀ (ls : zL) (st : zS) (h : zH), zx 240 104 ls st h = zgo 240 (zpure (.bipush (-2)) 106 0 [] ls st h)) ∧
  (∀ (ls : zL) (st : zS) (h : zH), zx 240 106 ls st h = zca 240 106 109 ls 229 4 0 (ztake 3 st) h) ∧
  (∀ (ls : zL) (st : zS) (h : zH), zx 240 109 ls st h = zgo 240 (zpure .i2l 110 0 [] ls st h)) ∧
  (∀ (ls : zL) (st : zS) (h : zH), zx 240 110 ls st h = zgo 240 (zpure .lmul 111 0 [] ls st h)) ∧
  (∀ (ls : zL) (st : zS) (h : zH), zx 240 111 ls st h = zgo 240 (zpure .ladd 112 0 [] ls st h)) ∧
  (∀ (ls : zL) (st : zS) (h : zH), zx 240 112 ls st h = zgo 240 (zpure (.ldc2_w 152) 115 0 [11] ls st h)) ∧
  (∀ (ls : zL) (st : zS) (h : zH), zx 240 115 ls st h = zgo 240 (zpure (.aload_n 0) 116 0 [] ls st h)) ∧
  (∀ (ls : zL) (st : zS) (h : zH), zx 240 116 ls st h = zgo 240 (zpure (.iload_n 3) 117 0 [] ls st h)) ∧
  (∀ (ls : zL) (st : zS) (h : zH), zx 240 117 ls st h = zgo 240 (zpure (.iconst 0) 118 0 [] ls st h)) ∧
  (∀ (ls : zL) (st : zS) (h : zH), zx 240 118 ls st h = zca 240 118 121 ls 229 4 0 (ztake 3 st) h) ∧
  (∀ (ls : zL) (st : zS) (h : zH), zx 240 121 ls st h = zgo 240 (zpure .i2l 122 0 [] ls st h)) ∧
  (∀ (ls : zL) (st : zS) (h : zH), zx 240 122 ls st h = zgo 240 (zpure .lmul 123 0 [] ls st h)) ∧
  (∀ (ls : zL) (st : zS) (h : zH), zx 240 123 ls st h = zgo 240 (zpure .ladd 124 0 [] ls st h)) ∧
  (∀ (ls : zL) (st : zS) (h : zH), zx 240 124 ls st h = zgo 240 (zpure (.lstore_n 1) 125 0 [] ls st h)) ∧
  (∀ (ls : zL) (st : zS) (h : zH), zx 240 125 ls st h = zgo 240 (zpure (.iinc 3 1) 128 0 [] ls st h)) ∧
  (∀ (ls : zL) (st : zS) (h : zH), zx 240 128 ls st h = zgo 240 (zpure (.goto (-74)) 131 54 [] ls st h)) ∧
  (∀ (ls : zL) (st : zS) (h : zH), zx 240 131 ls st h = zgo 240 (zpure (.iconst 0) 132 0 [] ls st h)) ∧
  (∀ (ls : zL) (st : zS) (h : zH), zx 240 132 ls st h = zgo 240 (zpure (.istore_n 3) 133 0 [] ls st h)) ∧
  (∀ (ls : zL) (st : zS) (h : zH), zx 240 134 ls st h = zgo 240 (zpure (.aload_n 0) 135 0 [] ls st h)) ∧
  (∀ (ls : zL) (st : zS) (h : zH), zx 240 135 ls st h = zca 240 135 138 ls 56 1 6 (ztake 1 st) h) ∧
  (∀ (ls : zL) (st : zS) (h : zH), zx 240 138 ls st h = zgo 240 (zpure (.if_icmp .ge 35) 141 173 [] ls st h)) ∧
  (∀ (ls : zL) (st : zS) (h : zH), zx 240 141 ls st h = zgo 240 (zpure (.ldc2_w 137) 144 0 [31] ls st h)) ∧
  (∀ (ls : zL) (st : zS) (h : zH), zx 240 144 ls st h = zgo 240 (zpure (.lload_n 1) 145 0 [] ls st h)) ∧
  (∀ (ls : zL) (st : zS) (h : zH), zx 240 145 ls st h = zgo 240 (zpure .lmul 146 0 [] ls st h)) ∧
  (∀ (ls : zL) (st : zS) (h : zH), zx 240 146 ls st h = zgo 240 (zpure (.aload_n 0) 147 0 [] ls st h)) ∧
  (∀ (ls : zL) (st : zS) (h : zH), zx 240 147 ls st h = zgo 240 (zpure (.iload_n 3) 148 0 [] ls st h)) ∧
  (∀ (ls : zL) (st : zS) (h : zH), zx 240 148 ls st h = zgo 240 (zpure (.iconst 0) 149 0 [] ls st h)) ∧
  (∀ (ls : zL) (st : zS) (h : zH), zx 240 149 ls st h = zca 240 149 152 ls 230 4 0 (ztake 3 st) h) ∧
  (∀ (ls : zL) (st : zS) (h : zH), zx 240 152 ls st h = zgo 240 (zpure .i2l 153 0 [] ls st h)) ∧
  (∀ (ls : zL) (st : zS) (h : zH), zx 240 153 ls st h = zgo 240 (zpure .ladd 154 0 [] ls st h)) ∧
  (∀ (ls : zL) (st : zS) (h : zH), zx 240 154 ls st h = zgo 240 (zpure (.ldc2_w 164) 157 0 [3] ls st h)) ∧
  (∀ (ls : zL) (st : zS) (h : zH), zx 240 157 ls st h = zgo 240 (zpure (.aload_n 0) 158 0 [] ls st h)) ∧
  (∀ (ls : zL) (st : zS) (h : zH), zx 240 158 ls st h = zgo 240 (zpure (.iload_n 3) 159 0 [] ls st h)) ∧
  (∀ (ls : zL) (st : zS) (h : zH), zx 240 159 ls st h = zgo 240 (zpure (.iconst 1) 160 0 [] ls st h)) ∧
  (∀ (ls : zL) (st : zS) (h : zH), zx 240 160 ls st h = zca 240 160 163 ls 230 4 0 (ztake 3 st) h) ∧
  (∀ (ls : zL) (st : zS) (h : zH), zx 240 163 ls st h = zgo 240 (zpure .i2l 164 0 [] ls st h)) ∧
  (∀ (ls : zL) (st : zS) (h : zH), zx 240 164 ls st h = zgo 240 (zpure .lmul 165 0 [] ls st h)) ∧
  (∀ (ls : zL) (st : zS) (h : zH), zx 240 165 ls st h = zgo 240 (zpure .ladd 166 0 [] ls st h)) ∧
  (∀ (ls : zL) (st : zS) (h : zH), zx 240 166 ls st h = zgo 240 (zpure (.lstore_n 1) 167 0 [] ls st h)) ∧
  (∀ (ls : zL) (st : zS) (h : zH), zx 240 167 ls st h = zgo 240 (zpure (.iinc 3 1) 170 0 [] ls st h)) ∧
  (∀ (ls : zL) (st : zS) (h : zH), zx 240 170 ls st h = zgo 240 (zpure (.goto (-37)) 173 133 [] ls st h)) ∧
  (∀ (ls : zL) (st : zS) (h : zH), zx 240 173 ls st h = zgo 240 (zpure (.iconst 0) 174 0 [] ls st h)) ∧
  (∀ (ls : zL) (st : zS) (h : zH), zx 240 174 ls st h = zgo 240 (zpure (.istore_n 3) 175 0 [] ls st h)) ∧
  (∀ (ls : zL) (st : zS) (h : zH), zx 240 176 ls st h = zgo 240 (zpure (.aload_n 0) 177 0 [] ls st h)) ∧
  (∀ (ls : zL) (st : zS) (h : zH), zx 240 177 ls st h = zca 240 177 180 ls 239 2 0 (ztake 1 st) h) ∧
  (∀ (ls : zL) (st : zS) (h : zH), zx 240 180 ls st h = zgo 240 (zpure (.if_icmp .ge 34) 183 214 [] ls st h)) ∧
  (∀ (ls : zL) (st : zS) (h : zH), zx 240 183 ls st h = zgo 240 (zpure (.ldc2_w 137) 186 0 [31] ls st h)) ∧
  (∀ (ls : zL) (st : zS) (h : zH), zx 240 186 ls st h = zgo 240 (zpure (.lload_n 1) 187 0 [] ls st h)) ∧
  (∀ (ls : zL) (st : zS) (h : zH), zx 240 187 ls st h = zgo 240 (zpure .lmul 188 0 [] ls st h)) ∧
  (∀ (ls : zL) (st : zS) (h : zH), zx 240 188 ls st h = zgo 240 (zpure (.aload_n 0) 189 0 [] ls st h)) ∧
  (∀ (ls : zL) (st : zS) (h : zH), zx 240 189 ls st h = zgo 240 (zpure (.iload_n 3) 190 0 [] ls st h)) ∧
  (∀ (ls : zL) (st : zS) (h : zH), zx 240 190 ls st h = zgo 240 (zpure (.bipush (-99)) 192 0 [] ls st h)) ∧
  (∀ (ls : zL) (st : zS) (h : zH), zx 240 192 ls st h = zca 240 192 195 ls 223 4 0 (ztake 3 st) h) ∧
  (∀ (ls : zL) (st : zS) (h : zH), zx 240 195 ls st h = zgo 240 (zpure .i2l 196 0 [] ls st h)) ∧
  (∀ (ls : zL) (st : zS) (h : zH), zx 240 196 ls st h = zgo 240 (zpure .ladd 197 0 [] ls st h)) :=
  ⟨zx_0 rfl, zx_0 rfl, zx_0 rfl, zx_0 rfl, zx_0 rfl, zx_0 rfl, zx_2c rfl, zx_0 rfl, zx_0 rfl, zx_0 rfl, zx_0 rfl, zx_0 rfl, zx_0 rfl, zx_0 rfl, zx_2c rfl, zx_0 rfl, zx_0 rfl, zx_0 rfl, zx_0 rfl, zx_0 rfl, zx_0 rfl, zx_0 rfl, zx_0 rfl, zx_0 rfl, zx_2c rfl, zx_0 rfl, zx_0 rfl, zx_0 rfl, zx_0 rfl, zx_0 rfl, zx_0 rfl, zx_0 rfl, zx_2c rfl, zx_0 rfl, zx_0 rfl, zx_0 rfl, zx_0 rfl, zx_0 rfl, zx_0 rfl, zx_2c rfl, zx_0 rfl, zx_0 rfl, zx_0 rfl, zx_0 rfl, zx_0 rfl, zx_0 rfl, zx_0 rfl, zx_0 rfl, zx_0 rfl, zx_2c rfl, zx_0 rfl, zx_0 rfl, zx_0 rfl, zx_0 rfl, zx_0 rfl, zx_0 rfl, zx_0 rfl, zx_2c rfl, zx_0 rfl, zx_0 rfl⟩
set_option maxRecDepth 4000 in
theorem z240_b2 :
  (∀ (ls : zL) (st : zS) (h : zH), zx 240 197 ls st h = zgo 240 (zpure (.ldc2_w 164) 200 0 [3] ls st h)) ∧
  (∀ (ls : zL) (st : zS) (h : zH), zx 240 200 ls st h = zgo 240 (zpure (.aload_n 0) 201 0 [] ls st h)) ∧
  (∀ (ls : zL) (st : zS) (h : zH), zx 240 201 ls st h = zgo 240 (zpure (.iload_n 3) 202 0 [] ls st h)) ∧
  (∀ (ls : zL) (st : zS) (h : zH), zx 240 202 ls st h = zca 240 202 205 ls 238 3 0 (ztake 2 st) h) ∧
  (∀ (ls : zL) (st : zS) (h : zH), zx 240 205 ls st h = zgo 240 (zpure .lmul 206 0 [] ls st h)) ∧
  (∀ (ls : zL) (st : zS) (h : zH), zx 240 206 ls st h = zgo 240 (zpure .ladd 207 0 [] ls st h)) ∧
  (∀ (ls : zL) (st : zS) (h : zH), zx 240 207 ls st h = zgo 240 (zpure (.lstore_n 1) 208 0 [] ls st h)) ∧
  (∀ (ls : zL) (st : zS) (h : zH), zx 240 208 ls st h = zgo 240 (zpure (.iinc 3 1) 211 0 [] ls st h)) ∧
  (∀ (ls : zL) (st : zS) (h : zH), zx 240 211 ls st h = zgo 240 (zpure (.goto (-36)) 214 175 [] ls st h)) ∧
  (∀ (ls : zL) (st : zS) (h : zH), zx 240 214 ls st h = zgo 240 (zpure (.lload_n 1) 215 0 [] ls st h)) ∧
  (∀ (ls : zL) (st : zS) (h : zH), zx 240 215 ls st h = zret 4 st h) :=
  ⟨zx_0 rfl, zx_0 rfl, zx_0 rfl, zx_2c rfl, zx_0 rfl, zx_0 rfl, zx_0 rfl, zx_0 rfl, zx_0 rfl, zx_0 rfl, zx_1 rfl⟩
theorem z241_7 : ∀ (ls : zL) (st : zS) (h : zH), zx 241 7 ls st h = zgo 241 (zpure (.iload 4) 9 0 [] ls st h) := zx_0 rfl
theorem z241_103 : ∀ (ls : zL) (st : zS) (h : zH), zx 241 103 ls st h = zgo 241 (zpure (.iload 4) 105 0 [] ls st h) := zx_0 rfl
theorem z241_145 : ∀ (ls : zL) (st : zS) (h : zH), zx 241 145 ls st h = zgo 241 (zpure (.iload 6) 147 0 [] ls st h) := zx_0 rfl
set_option maxRecDepth 4000 in
theorem z241_b0 :
  (∀ (ls : zL) (st : zS) (h : zH), zx 241 0 ls st h = zgo 241 (zpure (.iconst 0) 1 0 [] ls st h)) ∧
  (∀ (ls : zL) (st : zS) (h : zH), zx 241 1 ls st h = zgo 241 (zpure (.istore_n 2) 2 0 [] ls st h)) ∧
  (∀ (ls : zL) (st : zS) (h : zH), zx 241 2 ls st h = zgo 241 (zpure (.iconst 0) 3 0 [] ls st h)) ∧
  (∀ (ls : zL) (st : zS) (h : zH), zx 241 3 ls st h = zgo 241 (zpure (.istore_n 3) 4 0 [] ls st h)) ∧
  (∀ (ls : zL) (st : zS) (h : zH), zx 241 4 ls st h = zgo 241 (zpure (.iconst 0) 5 0 [] ls st h)) ∧
  (∀ (ls : zL) (st : zS) (h : zH), zx 241 5 ls st h = zgo 241 (zpure (.istore 4) 7 0 [] ls st h)) ∧
  (∀ (ls : zL) (st : zS) (h : zH), zx 241 9 ls st h = zgo 241 (zpure (.aload_n 0) 10 0 [] ls st h)) ∧
  (∀ (ls : zL) (st : zS) (h : zH), zx 241 10 ls st h = zca 241 10 13 ls 56 1 6 (ztake 1 st) h) ∧
  (∀ (ls : zL) (st : zS) (h : zH), zx 241 13 ls st h = zgo 241 (zpure (.if_icmp .ge 67) 16 80 [] ls st h)) ∧
  (∀ (ls : zL) (st : zS) (h : zH), zx 241 16 ls st h = zgo 241 (zpure (.aload_n 0) 17 0 [] ls st h)) ∧
  (∀ (ls : zL) (st : zS) (h : zH), zx 241 17 ls st h = zgo 241 (zpure (.iload 4) 19 0 [] ls st h)) ∧
  (∀ (ls : zL) (st : zS) (h : zH), zx 241 19 ls st h = zgo 241 (zpure (.iconst 1) 20 0 [] ls st h)) ∧
  (∀ (ls : zL) (st : zS) (h : zH), zx 241 20 ls st h = zca 241 20 23 ls 230 4 0 (ztake 3 st) h) ∧
  (∀ (ls : zL) (st : zS) (h : zH), zx 241 23 ls st h = zgo 241 (zpure (.iload_n 2) 24 0 [] ls st h)) ∧
  (∀ (ls : zL) (st : zS) (h : zH), zx 241 24 ls st h = zgo 241 (zpure (.if_icmp .ne 14) 27 38 [] ls st h)) ∧
  (∀ (ls : zL) (st : zS) (h : zH), zx 241 27 ls st h = zgo 241 (zpure (.aload_n 0) 28 0 [] ls st h)) ∧
  (∀ (ls : zL) (st : zS) (h : zH), zx 241 28 ls st h = zgo 241 (zpure (.iload 4) 30 0 [] ls st h)) ∧
  (∀ (ls : zL) (st : zS) (h : zH), zx 241 30 ls st h = zgo 241 (zpure (.iconst 2) 31 0 [] ls st h)) ∧
  (∀ (ls : zL) (st : zS) (h : zH), zx 241 31 ls st h = zca 241 31 34 ls 230 4 0 (ztake 3 st) h) ∧
  (∀ (ls : zL) (st : zS) (h : zH), zx 241 34 ls st h = zgo 241 (zpure (.iconst 1) 35 0 [] ls st h)) ∧
  (∀ (ls : zL) (st : zS) (h : zH), zx 241 35 ls st h = zgo 241 (zpure (.if_icmp .ge 5) 38 40 [] ls st h)) ∧
  (∀ (ls : zL) (st : zS) (h : zH), zx 241 38 ls st h = zgo 241 (zpure (.iconst 0) 39 0 [] ls st h)) ∧
  (∀ (ls : zL) (st : zS) (h : zH), zx 241 39 ls st h = zret 1 st h) ∧
  (∀ (ls : zL) (st : zS) (h : zH), zx 241 40 ls st h = zgo 241 (zpure (.iload_n 3) 41 0 [] ls st h)) ∧
  (∀ (ls : zL) (st : zS) (h : zH), zx 241 41 ls st h = zgo 241 (zpure (.aload_n 0) 42 0 [] ls st h)) ∧
  (∀ (ls : zL) (st : zS) (h : zH), zx 241 42 ls st h = zgo 241 (zpure (.iload 4) 44 0 [] ls st h)) ∧
  (∀ (ls : zL) (st : zS) (h : zH), zx 241 44 ls st h = zgo 241 (zpure (.iconst 0) 45 0 [] ls st h)) ∧
  (∀ (ls : zL) (st : zS) (h : zH), zx 241 45 ls st h = zca 241 45 48 ls 230 4 0 (ztake 3 st) h) ∧
  (∀ (ls : zL) (st : zS) (h : zH), zx 241 48 ls st h = zgo 241 (zpure (.ifCond .ge 13) 51 61 [] ls st h)) ∧
  (∀ (ls : zL) (st : zS) (h : zH), zx 241 51 ls st h = zgo 241 (zpure (.aload_n 0) 52 0 [] ls st h)) ∧
  (∀ (ls : zL) (st : zS) (h : zH), zx 241 52 ls st h = zgo 241 (zpure (.iload 4) 54 0 [] ls st h)) ∧
  (∀ (ls : zL) (st : zS) (h : zH), zx 241 54 ls st h = zgo 241 (zpure (.iconst 2) 55 0 [] ls st h)) ∧
  (∀ (ls : zL) (st : zS) (h : zH), zx 241 55 ls st h = zca 241 55 58 ls 230 4 0 (ztake 3 st) h) ∧
  (∀ (ls : zL) (st : zS) (h : zH), zx 241 58 ls st h = zgo 241 (zpure (.goto 4) 61 62 [] ls st h)) ∧
  (∀ (ls : zL) (st : zS) (h : zH), zx 241 61 ls st h = zgo 241 (zpure (.iconst 0) 62 0 [] ls st h)) ∧
  (∀ (ls : zL) (st : zS) (h : zH), zx 241 62 ls st h = zgo 241 (zpure .iadd 63 0 [] ls st h)) ∧
  (∀ (ls : zL) (st : zS) (h : zH), zx 241 63 ls st h = zgo 241 (zpure (.istore_n 3) 64 0 [] ls st h)) ∧
  (∀ (ls : zL) (st : zS) (h : zH), zx 241 64 ls st h = zgo 241 (zpure (.iload_n 2) 65 0 [] ls st h)) ∧
  (∀ (ls : zL) (st : zS) (h : zH), zx 241 65 ls st h = zgo 241 (zpure (.aload_n 0) 66 0 [] ls st h)) ∧
  (∀ (ls : zL) (st : zS) (h : zH), zx 241 66 ls st h = zgo 241 (zpure (.iload 4) 68 0 [] ls st h)) ∧
  (∀ (ls : zL) (st : zS) (h : zH), zx 241 68 ls st h = zgo 241 (zpure (.iconst 2) 69 0 [] ls st h)) ∧
  (∀ (ls : zL) (st : zS) (h : zH), zx 241 69 ls st h = zca 241 69 72 ls 230 4 0 (ztake 3 st) h) ∧
  (∀ (ls : zL) (st : zS) (h : zH), zx 241 72 ls st h = zgo 241 (zpure .iadd 73 0 [] ls st h)) ∧
  (∀ (ls : zL) (st : zS) (h : zH), zx 241 73 ls st h = zgo 241 (zpure (.istore_n 2) 74 0 [] ls st h)) ∧
  (∀ (ls : zL) (st : zS) (h : zH), zx 241 74 ls st h = zgo 241 (zpure (.iinc 4 1) 77 0 [] ls st h)) ∧
  (∀ (ls : zL) (st : zS) (h : zH), zx 241 77 ls st h = zgo 241 (zpure (.goto (-70)) 80 7 [] ls st h)) ∧
  (∀ (ls : zL) (st : zS) (h : zH), zx 241 80 ls st h = zgo 241 (zpure (.iload_n 2) 81 0 [] ls st h)) ∧
  (∀ (ls : zL) (st : zS) (h : zH), zx 241 81 ls st h = zgo 241 (zpure (.sipush 3600) 84 0 [] ls st h)) ∧
  (∀ (ls : zL) (st : zS) (h : zH), zx 241 84 ls st h = zgo 241 (zpure (.if_icmp .ne 11) 87 95 [] ls st h)) ∧
  (∀ (ls : zL) (st : zS) (h : zH), zx 241 87 ls st h = zgo 241 (zpure (.iload_n 3) 88 0 [] ls st h)) ∧
  (∀ (ls : zL) (st : zS) (h : zH), zx 241 88 ls st h = zgo 241 (zpure (.aload_n 0) 89 0 [] ls st h)) ∧
  (∀ (ls : zL) (st : zS) (h : zH), zx 241 89 ls st h = zca 241 89 92 ls 62 3 6 (ztake 1 st) h) ∧
  (∀ (ls : zL) (st : zS) (h : zH), zx 241 92 ls st h = zgo 241 (zpure (.if_icmp .eq 5) 95 97 [] ls st h)) ∧
  (∀ (ls : zL) (st : zS) (h : zH), zx 241 95 ls st h = zgo 241 (zpure (.iconst 0) 96 0 [] ls st h)) ∧
  (∀ (ls : zL) (st : zS) (h : zH), zx 241 96 ls st h = zret 1 st h) ∧
  (∀ (ls : zL) (st : zS) (h : zH), zx 241 97 ls st h = zgo 241 (zpure (.iload_n 1) 98 0 [] ls st h)) ∧
  (∀ (ls : zL) (st : zS) (h : zH), zx 241 98 ls st h = zgo 241 (zpure (.bipush 41) 100 0 [] ls st h)) ∧
  (∀ (ls : zL) (st : zS) (h : zH), zx 241 100 ls st h = zgo 241 (zpure .irem 101 0 [] ls st h)) ∧
  (∀ (ls : zL) (st : zS) (h : zH), zx 241 101 ls st h = zgo 241 (zpure (.istore 4) 103 0 [] ls st h)) ∧
  (∀ (ls : zL) (st : zS) (h : zH), zx 241 105 ls st h = zgo 241 (zpure (.sipush 3600) 108 0 [] ls st h)) :=
  ⟨zx_0 rfl, zx_0 rfl, zx_0 rfl, zx_0 rfl, zx_0 rfl, zx_0 rfl, zx_0 rfl, zx_2c rfl, zx_0 rfl, zx_0 rfl, zx_0 rfl, zx_0 rfl, zx_2c rfl, zx_0 rfl, zx_0 rfl, zx_0 rfl, zx_0 rfl, zx_0 rfl, zx_2c rfl, zx_0 rfl, zx_0 rfl, zx_0 rfl, zx_1 rfl, zx_0 rfl, zx_0 rfl, zx_0 rfl, zx_0 rfl, zx_2c rfl, zx_0 rfl, zx_0 rfl, zx_0 rfl, zx_0 rfl, zx_2c rfl, zx_0 rfl, zx_0 rfl, zx_0 rfl, zx_0 rfl, zx_0 rfl, zx_0 rfl, zx_0 rfl, zx_0 rfl, zx_2c rfl, zx_0 rfl, zx_0 rfl, zx_0 rfl, zx_0 rfl, zx_0 rfl, zx_0 rfl, zx_0 rfl, zx_0 rfl, zx_0 rfl, zx_2c rfl, zx_0 rfl, zx_0 rfl, zx_1 rfl, zx_0 rfl, zx_0 rfl, zx_0 rfl, zx_0 rfl, zx_0 rfl⟩
set_option maxRecDepth 4000 in
theorem z241_b1 :
  (∀ (ls : zL) (st : zS) (h : zH), zx 241 108 ls st h = zgo 241 (zpure (.if_icmp .ge 28) 111 136 [] ls st h)) ∧
  (∀ (ls : zL) (st : zS) (h : zH), zx 241 111 ls st h = zgo 241 (zpure (.aload_n 0) 112 0 [] ls st h)) ∧
  (∀ (ls : zL) (st : zS) (h : zH), zx 241 112 ls st h = zgo 241 (zpure (.iload 4) 114 0 [] ls st h)) ∧
  (∀ (ls : zL) (st : zS) (h : zH), zx 241 114 ls st h = zgo 241 (zpure (.iconst 0) 115 0 [] ls st h)) ∧
  (∀ (ls : zL) (st : zS) (h : zH), zx 241 115 ls st h = zca 241 115 118 ls 231 4 0 (ztake 3 st) h) ∧
  (∀ (ls : zL) (st : zS) (h : zH), zx 241 118 ls st h = zgo 241 (zpure (.aload_n 0) 119 0 [] ls st h)) ∧
  (∀ (ls : zL) (st : zS) (h : zH), zx 241 119 ls st h = zgo 241 (zpure (.iload 4) 121 0 [] ls st h)) ∧
  (∀ (ls : zL) (st : zS) (h : zH), zx 241 121 ls st h = zgo 241 (zpure (.iconst 1) 122 0 [] ls st h)) ∧
  (∀ (ls : zL) (st : zS) (h : zH), zx 241 122 ls st h = zca 241 122 125 ls 231 4 0 (ztake 3 st) h) ∧
  (∀ (ls : zL) (st : zS) (h : zH), zx 241 125 ls st h = zgo 241 (zpure (.if_icmp .eq 5) 128 130 [] ls st h)) ∧
  (∀ (ls : zL) (st : zS) (h : zH), zx 241 128 ls st h = zgo 241 (zpure (.iconst 0) 129 0 [] ls st h)) ∧
  (∀ (ls : zL) (st : zS) (h : zH), zx 241 129 ls st h = zret 1 st h) ∧
  (∀ (ls : zL) (st : zS) (h : zH), zx 241 130 ls st h = zgo 241 (zpure (.iinc 4 41) 133 0 [] ls st h)) ∧
  (∀ (ls : zL) (st : zS) (h : zH), zx 241 133 ls st h = zgo 241 (zpure (.goto (-30)) 136 103 [] ls st h)) ∧
  (∀ (ls : zL) (st : zS) (h : zH), zx 241 136 ls st h = zgo 241 (zpure (.iconst 0) 137 0 [] ls st h)) ∧
  (∀ (ls : zL) (st : zS) (h : zH), zx 241 137 ls st h = zgo 241 (zpure (.istore 4) 139 0 [] ls st h)) ∧
  (∀ (ls : zL) (st : zS) (h : zH), zx 241 139 ls st h = zgo 241 (zpure (.iconst 0) 140 0 [] ls st h)) ∧
  (∀ (ls : zL) (st : zS) (h : zH), zx 241 140 ls st h = zgo 241 (zpure (.istore 5) 142 0 [] ls st h)) ∧
  (∀ (ls : zL) (st : zS) (h : zH), zx 241 142 ls st h = zgo 241 (zpure (.iconst 0) 143 0 [] ls st h)) ∧
  (∀ (ls : zL) (st : zS) (h : zH), zx 241 143 ls st h = zgo 241 (zpure (.istore 6) 145 0 [] ls st h)) ∧
  (∀ (ls : zL) (st : zS) (h : zH), zx 241 147 ls st h = zgo 241 (zpure (.aload_n 0) 148 0 [] ls st h)) ∧
  (∀ (ls : zL) (st : zS) (h : zH), zx 241 148 ls st h = zca 241 148 151 ls 51 1 6 (ztake 1 st) h) ∧
  (∀ (ls : zL) (st : zS) (h : zH), zx 241 151 ls st h = zgo 241 (zpure (.if_icmp .ge 215) 154 366 [] ls st h)) ∧
  (∀ (ls : zL) (st : zS) (h : zH), zx 241 154 ls st h = zgo 241 (zpure (.aload_n 0) 155 0 [] ls st h)) ∧
  (∀ (ls : zL) (st : zS) (h : zH), zx 241 155 ls st h = zgo 241 (zpure (.iload 6) 157 0 [] ls st h)) ∧
  (∀ (ls : zL) (st : zS) (h : zH), zx 241 157 ls st h = zca 241 157 160 ls 228 3 0 (ztake 2 st) h) ∧
  (∀ (ls : zL) (st : zS) (h : zH), zx 241 160 ls st h = zgo 241 (zpure (.istore 7) 162 0 [] ls st h)) ∧
  (∀ (ls : zL) (st : zS) (h : zH), zx 241 162 ls st h = zgo 241 (zpure (.aload_n 0) 163 0 [] ls st h)) ∧
  (∀ (ls : zL) (st : zS) (h : zH), zx 241 163 ls st h = zgo 241 (zpure (.iload 6) 165 0 [] ls st h)) ∧
  (∀ (ls : zL) (st : zS) (h : zH), zx 241 165 ls st h = zgo 241 (zpure (.iconst (-1)) 166 0 [] ls st h)) ∧
  (∀ (ls : zL) (st : zS) (h : zH), zx 241 166 ls st h = zca 241 166 169 ls 229 4 0 (ztake 3 st) h) ∧
  (∀ (ls : zL) (st : zS) (h : zH), zx 241 169 ls st h = zgo 241 (zpure (.istore 8) 171 0 [] ls st h)) ∧
  (∀ (ls : zL) (st : zS) (h : zH), zx 241 171 ls st h = zgo 241 (zpure (.aload_n 0) 172 0 [] ls st h)) ∧
  (∀ (ls : zL) (st : zS) (h : zH), zx 241 172 ls st h = zgo 241 (zpure (.iload 6) 174 0 [] ls st h)) ∧
  (∀ (ls : zL) (st : zS) (h : zH), zx 241 174 ls st h = zgo 241 (zpure (.bipush (-2)) 176 0 [] ls st h)) ∧
  (∀ (ls : zL) (st : zS) (h : zH), zx 241 176 ls st h = zca 241 176 179 ls 229 4 0 (ztake 3 st) h) ∧
  (∀ (ls : zL) (st : zS) (h : zH), zx 241 179 ls st h = zgo 241 (zpure (.istore 9) 181 0 [] ls st h)) ∧
  (∀ (ls : zL) (st : zS) (h : zH), zx 241 181 ls st h = zgo 241 (zpure (.iload 7) 183 0 [] ls st h)) ∧
  (∀ (ls : zL) (st : zS) (h : zH), zx 241 183 ls st h = zgo 241 (zpure (.bipush 114) 185 0 [] ls st h)) ∧
  (∀ (ls : zL) (st : zS) (h : zH), zx 241 185 ls st h = zgo 241 (zpure (.if_icmp .eq 10) 188 195 [] ls st h)) ∧
  (∀ (ls : zL) (st : zS) (h : zH), zx 241 188 ls st h = zgo 241 (zpure (.iload 7) 190 0 [] ls st h)) ∧
  (∀ (ls : zL) (st : zS) (h : zH), zx 241 190 ls st h = zgo 241 (zpure (.bipush 120) 192 0 [] ls st h)) ∧
  (∀ (ls : zL) (st : zS) (h : zH), zx 241 192 ls st h = zgo 241 (zpure (.if_icmp .ne 7) 195 199 [] ls st h)) ∧
  (∀ (ls : zL) (st : zS) (h : zH), zx 241 195 ls st h = zgo 241 (zpure (.iconst 1) 196 0 [] ls st h)) ∧
  (∀ (ls : zL) (st : zS) (h : zH), zx 241 196 ls st h = zgo 241 (zpure (.goto 4) 199 200 [] ls st h)) ∧
  (∀ (ls : zL) (st : zS) (h : zH), zx 241 199 ls st h = zgo 241 (zpure (.iconst 0) 200 0 [] ls st h)) ∧
  (∀ (ls : zL) (st : zS) (h : zH), zx 241 200 ls st h = zgo 241 (zpure (.iload 8) 202 0 [] ls st h)) ∧
  (∀ (ls : zL) (st : zS) (h : zH), zx 241 202 ls st h = zgo 241 (zpure (.ifCond .ge 7) 205 209 [] ls st h)) ∧
  (∀ (ls : zL) (st : zS) (h : zH), zx 241 205 ls st h = zgo 241 (zpure (.iconst 1) 206 0 [] ls st h)) ∧
  (∀ (ls : zL) (st : zS) (h : zH), zx 241 206 ls st h = zgo 241 (zpure (.goto 4) 209 210 [] ls st h)) ∧
  (∀ (ls : zL) (st : zS) (h : zH), zx 241 209 ls st h = zgo 241 (zpure (.iconst 0) 210 0 [] ls st h)) ∧
  (∀ (ls : zL) (st : zS) (h : zH), zx 241 210 ls st h = zgo 241 (zpure (.if_icmp .ne 26) 213 236 [] ls st h)) ∧
  (∀ (ls : zL) (st : zS) (h : zH), zx 241 213 ls st h = zgo 241 (zpure (.iload 8) 215 0 [] ls st h)) ∧
  (∀ (ls : zL) (st : zS) (h : zH), zx 241 215 ls st h = zgo 241 (zpure (.ifCond .ge 7) 218 222 [] ls st h)) ∧
  (∀ (ls : zL) (st : zS) (h : zH), zx 241 218 ls st h = zgo 241 (zpure (.iconst 1) 219 0 [] ls st h)) ∧
  (∀ (ls : zL) (st : zS) (h : zH), zx 241 219 ls st h = zgo 241 (zpure (.goto 4) 222 223 [] ls st h)) ∧
  (∀ (ls : zL) (st : zS) (h : zH), zx 241 222 ls st h = zgo 241 (zpure (.iconst 0) 223 0 [] ls st h)) ∧
  (∀ (ls : zL) (st : zS) (h : zH), zx 241 223 ls st h = zgo 241 (zpure (.iload 9) 225 0 [] ls st h)) ∧
  (∀ (ls : zL) (st : zS) (h : zH), zx 241 225 ls st h = zgo 241 (zpure (.ifCond .ge 7) 228 232 [] ls st h)) ∧
  (∀ (ls : zL) (st : zS) (h : zH), zx 241 228 ls st h = zgo 241 (zpure (.iconst 1) 229 0 [] ls st h)) :=
  ⟨zx_0 rfl, zx_0 rfl, zx_0 rfl, zx_0 rfl, zx_2c rfl, zx_0 rfl, zx_0 rfl, zx_0 rfl, zx_2c rfl, zx_0 rfl, zx_0 rfl, zx_1 rfl, zx_0 rfl, zx_0 rfl, zx_0 rfl, zx_0 rfl, zx_0 rfl, zx_0 rfl, zx_0 rfl, zx_0 rfl, zx_0 rfl, zx_2c rfl, zx_0 rfl, zx_0 rfl, zx_0 rfl, zx_2c rfl, zx_0 rfl, zx_0 rfl, zx_0 rfl, zx_0 rfl, zx_2c rfl, zx_0 rfl, zx_0 rfl, zx_0 rfl, zx_0 rfl, zx_2c rfl, zx_0 rfl, zx_0 rfl, zx_0 rfl, zx_0 rfl, zx_0 rfl, zx_0 rfl, zx_0 rfl, zx_0 rfl, zx_0 rfl, zx_0 rfl, zx_0 rfl, zx_0 rfl, zx_0 rfl, zx_0 rfl, zx_0 rfl, zx_0 rfl, zx_0 rfl, zx_0 rfl, zx_0 rfl, zx_0 rfl, zx_0 rfl, zx_0 rfl, zx_0 rfl, zx_0 rfl⟩
set_option maxRecDepth 4000 in
theorem z241_b2 :
  (∀ (ls : zL) (st : zS) (h : zH), zx 241 229 ls st h = zgo 241 (zpure (.goto 4) 232 233 [] ls st h)) ∧
  (∀ (ls : zL) (st : zS) (h : zH), zx 241 232 ls st h = zgo 241 (zpure (.iconst 0) 233 0 [] ls st h)) ∧
  (∀ (ls : zL) (st : zS) (h : zH), zx 241 233 ls st h = zgo 241 (zpure (.if_icmp .eq 5) 236 238 [] ls st h)) ∧
  (∀ (ls : zL) (st : zS) (h : zH), zx 241 236 ls st h = zgo 241 (zpure (.iconst 0) 237 0 [] ls st h)) ∧
  (∀ (ls : zL) (st : zS) (h : zH), zx 241 237 ls st h = zret 1 st h) ∧
  (∀ (ls : zL) (st : zS) (h : zH), zx 241 238 ls st h = zgo 241 (zpure (.iload 8) 240 0 [] ls st h)) ∧
  (∀ (ls : zL) (st : zS) (h : zH), zx 241 240 ls st h = zgo 241 (zpure (.ifCond .lt 79) 243 319 [] ls st h)) ∧
  (∀ (ls : zL) (st : zS) (h : zH), zx 241 243 ls st h = zgo 241 (zpure (.iload 8) 245 0 [] ls st h)) ∧
  (∀ (ls : zL) (st : zS) (h : zH), zx 241 245 ls st h = zgo 241 (zpure (.iload 4) 247 0 [] ls st h)) ∧
  (∀ (ls : zL) (st : zS) (h : zH), zx 241 247 ls st h = zgo 241 (zpure (.if_icmp .lt 56) 250 303 [] ls st h)) ∧
  (∀ (ls : zL) (st : zS) (h : zH), zx 241 250 ls st h = zgo 241 (zpure (.iload 9) 252 0 [] ls st h)) ∧
  (∀ (ls : zL) (st : zS) (h : zH), zx 241 252 ls st h = zgo 241 (zpure (.iload 8) 254 0 [] ls st h)) ∧
  (∀ (ls : zL) (st : zS) (h : zH), zx 241 254 ls st h = zgo 241 (zpure (.if_icmp .le 49) 257 303 [] ls st h)) ∧
  (∀ (ls : zL) (st : zS) (h : zH), zx 241 257 ls st h = zgo 241 (zpure (.iload 9) 259 0 [] ls st h)) ∧
  (∀ (ls : zL) (st : zS) (h : zH), zx 241 259 ls st h = zgo 241 (zpure (.sipush 3600) 262 0 [] ls st h)) ∧
  (∀ (ls : zL) (st : zS) (h : zH), zx 241 262 ls st h = zgo 241 (zpure (.if_icmp .gt 41) 265 303 [] ls st h)) ∧
  (∀ (ls : zL) (st : zS) (h : zH), zx 241 265 ls st h = zgo 241 (zpure (.aload_n 0) 266 0 [] ls st h)) ∧
  (∀ (ls : zL) (st : zS) (h : zH), zx 241 266 ls st h = zgo 241 (zpure (.iload 8) 268 0 [] ls st h)) ∧
  (∀ (ls : zL) (st : zS) (h : zH), zx 241 268 ls st h = zgo 241 (zpure (.iconst 0) 269 0 [] ls st h)) ∧
  (∀ (ls : zL) (st : zS) (h : zH), zx 241 269 ls st h = zca 241 269 272 ls 231 4 0 (ztake 3 st) h) ∧
  (∀ (ls : zL) (st : zS) (h : zH), zx 241 272 ls st h = zgo 241 (zpure (.aload_n 0) 273 0 [] ls st h)) ∧
  (∀ (ls : zL) (st : zS) (h : zH), zx 241 273 ls st h = zgo 241 (zpure (.iload 6) 275 0 [] ls st h)) ∧
  (∀ (ls : zL) (st : zS) (h : zH), zx 241 275 ls st h = zgo 241 (zpure (.iconst 0) 276 0 [] ls st h)) ∧
  (∀ (ls : zL) (st : zS) (h : zH), zx 241 276 ls st h = zgo 241 (zpure (.iconst 2) 277 0 [] ls st h)) ∧
  (∀ (ls : zL) (st : zS) (h : zH), zx 241 277 ls st h = zca 241 277 280 ls 225 5 0 (ztake 4 st) h) ∧
  (∀ (ls : zL) (st : zS) (h : zH), zx 241 280 ls st h = zgo 241 (zpure (.if_icmp .ne 23) 283 303 [] ls st h)) ∧
  (∀ (ls : zL) (st : zS) (h : zH), zx 241 283 ls st h = zgo 241 (zpure (.aload_n 0) 284 0 [] ls st h)) ∧
  (∀ (ls : zL) (st : zS) (h : zH), zx 241 284 ls st h = zgo 241 (zpure (.iload 9) 286 0 [] ls st h)) ∧
  (∀ (ls : zL) (st : zS) (h : zH), zx 241 286 ls st h = zgo 241 (zpure (.iconst 1) 287 0 [] ls st h)) ∧
  (∀ (ls : zL) (st : zS) (h : zH), zx 241 287 ls st h = zgo 241 (zpure .isub 288 0 [] ls st h)) ∧
  (∀ (ls : zL) (st : zS) (h : zH), zx 241 288 ls st h = zgo 241 (zpure (.iconst 1) 289 0 [] ls st h)) ∧
  (∀ (ls : zL) (st : zS) (h : zH), zx 241 289 ls st h = zca 241 289 292 ls 231 4 0 (ztake 3 st) h) ∧
  (∀ (ls : zL) (st : zS) (h : zH), zx 241 292 ls st h = zgo 241 (zpure (.aload_n 0) 293 0 [] ls st h)) ∧
  (∀ (ls : zL) (st : zS) (h : zH), zx 241 293 ls st h = zgo 241 (zpure (.iload 6) 295 0 [] ls st h)) ∧
  (∀ (ls : zL) (st : zS) (h : zH), zx 241 295 ls st h = zgo 241 (zpure (.iconst 0) 296 0 [] ls st h)) ∧
  (∀ (ls : zL) (st : zS) (h : zH), zx 241 296 ls st h = zgo 241 (zpure (.iconst 2) 297 0 [] ls st h)) ∧
  (∀ (ls : zL) (st : zS) (h : zH), zx 241 297 ls st h = zca 241 297 300 ls 225 5 0 (ztake 4 st) h) ∧
  (∀ (ls : zL) (st : zS) (h : zH), zx 241 300 ls st h = zgo 241 (zpure (.if_icmp .eq 5) 303 305 [] ls st h)) ∧
  (∀ (ls : zL) (st : zS) (h : zH), zx 241 303 ls st h = zgo 241 (zpure (.iconst 0) 304 0 [] ls st h)) ∧
  (∀ (ls : zL) (st : zS) (h : zH), zx 241 304 ls st h = zret 1 st h) ∧
  (∀ (ls : zL) (st : zS) (h : zH), zx 241 305 ls st h = zgo 241 (zpure (.iload 9) 307 0 [] ls st h)) ∧
  (∀ (ls : zL) (st : zS) (h : zH), zx 241 307 ls st h = zgo 241 (zpure (.istore 4) 309 0 [] ls st h)) ∧
  (∀ (ls : zL) (st : zS) (h : zH), zx 241 309 ls st h = zgo 241 (zpure (.iload 5) 311 0 [] ls st h)) ∧
  (∀ (ls : zL) (st : zS) (h : zH), zx 241 311 ls st h = zgo 241 (zpure (.iload 9) 313 0 [] ls st h)) ∧
  (∀ (ls : zL) (st : zS) (h : zH), zx 241 313 ls st h = zgo 241 (zpure (.iload 8) 315 0 [] ls st h)) ∧
  (∀ (ls : zL) (st : zS) (h : zH), zx 241 315 ls st h = zgo 241 (zpure .isub 316 0 [] ls st h)) ∧
  (∀ (ls : zL) (st : zS) (h : zH), zx 241 316 ls st h = zgo 241 (zpure .iadd 317 0 [] ls st h)) ∧
  (∀ (ls : zL) (st : zS) (h : zH), zx 241 317 ls st h = zgo 241 (zpure (.istore 5) 319 0 [] ls st h)) ∧
  (∀ (ls : zL) (st : zS) (h : zH), zx 241 319 ls st h = zgo 241 (zpure (.aload_n 0) 320 0 [] ls st h)) ∧
  (∀ (ls : zL) (st : zS) (h : zH), zx 241 320 ls st h = zgo 241 (zpure (.iload 6) 322 0 [] ls st h)) ∧
  (∀ (ls : zL) (st : zS) (h : zH), zx 241 322 ls st h = zgo 241 (zpure (.iconst 0) 323 0 [] ls st h)) ∧
  (∀ (ls : zL) (st : zS) (h : zH), zx 241 323 ls st h = zca 241 323 326 ls 229 4 0 (ztake 3 st) h) ∧
  (∀ (ls : zL) (st : zS) (h : zH), zx 241 326 ls st h = zgo 241 (zpure (.istore 10) 328 0 [] ls st h)) ∧
  (∀ (ls : zL) (st : zS) (h : zH), zx 241 328 ls st h = zgo 241 (zpure (.iload 10) 330 0 [] ls st h)) ∧
  (∀ (ls : zL) (st : zS) (h : zH), zx 241 330 ls st h = zgo 241 (zpure (.ifCond .lt 30) 333 360 [] ls st h)) ∧
  (∀ (ls : zL) (st : zS) (h : zH), zx 241 333 ls st h = zgo 241 (zpure (.iload 10) 335 0 [] ls st h)) ∧
  (∀ (ls : zL) (st : zS) (h : zH), zx 241 335 ls st h = zgo 241 (zpure (.iload 8) 337 0 [] ls st h)) ∧
  (∀ (ls : zL) (st : zS) (h : zH), zx 241 337 ls st h = zgo 241 (zpure (.if_icmp .lt 21) 340 358 [] ls st h)) ∧
  (∀ (ls : zL) (st : zS) (h : zH), zx 241 340 ls st h = zgo 241 (zpure (.iload 10) 342 0 [] ls st h)) ∧
  (∀ (ls : zL) (st : zS) (h : zH), zx 241 342 ls st h = zgo 241 (zpure (.iload 9) 344 0 [] ls st h)) :=
  ⟨zx_0 rfl, zx_0 rfl, zx_0 rfl, zx_0 rfl, zx_1 rfl, zx_0 rfl, zx_0 rfl, zx_0 rfl, zx_0 rfl, zx_0 rfl, zx_0 rfl, zx_0 rfl, zx_0 rfl, zx_0 rfl, zx_0 rfl, zx_0 rfl, zx_0 rfl, zx_0 rfl, zx_0 rfl, zx_2c rfl, zx_0 rfl, zx_0 rfl, zx_0 rfl, zx_0 rfl, zx_2c rfl, zx_0 rfl, zx_0 rfl, zx_0 rfl, zx_0 rfl, zx_0 rfl, zx_0 rfl, zx_2c rfl, zx_0 rfl, zx_0 rfl, zx_0 rfl, zx_0 rfl, zx_2c rfl, zx_0 rfl, zx_0 rfl, zx_1 rfl, zx_0 rfl, zx_0 rfl, zx_0 rfl, zx_0 rfl, zx_0 rfl, zx_0 rfl, zx_0 rfl, zx_0 rfl, zx_0 rfl, zx_0 rfl, zx_0 rfl, zx_2c rfl, zx_0 rfl, zx_0 rfl, zx_0 rfl, zx_0 rfl, zx_0 rfl, zx_0 rfl, zx_0 rfl, zx_0 rfl⟩
set_option maxRecDepth 4000 in
theorem z241_b3 :
  (∀ (ls : zL) (st : zS) (h : zH), zx 241 344 ls st h = zgo 241 (zpure (.if_icmp .ge 14) 347 358 [] ls st h)) ∧
  (∀ (ls : zL) (st : zS) (h : zH), zx 241 347 ls st h = zgo 241 (zpure (.aload_n 0) 348 0 [] ls st h)) ∧
  (∀ (ls : zL) (st : zS) (h : zH), zx 241 348 ls st h = zgo 241 (zpure (.iload 10) 350 0 [] ls st h)) ∧
  (∀ (ls : zL) (st : zS) (h : zH), zx 241 350 ls st h = zgo 241 (zpure (.iconst 2) 351 0 [] ls st h)) ∧
  (∀ (ls : zL) (st : zS) (h : zH), zx 241 351 ls st h = zca 241 351 354 ls 231 4 0 (ztake 3 st) h) ∧
  (∀ (ls : zL) (st : zS) (h : zH), zx 241 354 ls st h = zgo 241 (zpure (.iconst 1) 355 0 [] ls st h)) ∧
  (∀ (ls : zL) (st : zS) (h : zH), zx 241 355 ls st h = zgo 241 (zpure (.if_icmp .ge 5) 358 360 [] ls st h)) ∧
  (∀ (ls : zL) (st : zS) (h : zH), zx 241 358 ls st h = zgo 241 (zpure (.iconst 0) 359 0 [] ls st h)) ∧
  (∀ (ls : zL) (st : zS) (h : zH), zx 241 359 ls st h = zret 1 st h) ∧
  (∀ (ls : zL) (st : zS) (h : zH), zx 241 360 ls st h = zgo 241 (zpure (.iinc 6 1) 363 0 [] ls st h)) ∧
  (∀ (ls : zL) (st : zS) (h : zH), zx 241 363 ls st h = zgo 241 (zpure (.goto (-218)) 366 145 [] ls st h)) ∧
  (∀ (ls : zL) (st : zS) (h : zH), zx 241 366 ls st h = zgo 241 (zpure (.iload 5) 368 0 [] ls st h)) ∧
  (∀ (ls : zL) (st : zS) (h : zH), zx 241 368 ls st h = zgo 241 (zpure (.iload_n 3) 369 0 [] ls st h)) ∧
  (∀ (ls : zL) (st : zS) (h : zH), zx 241 369 ls st h = zgo 241 (zpure .iadd 370 0 [] ls st h)) ∧
  (∀ (ls : zL) (st : zS) (h : zH), zx 241 370 ls st h = zgo 241 (zpure (.sipush 3600) 373 0 [] ls st h)) ∧
  (∀ (ls : zL) (st : zS) (h : zH), zx 241 373 ls st h = zgo 241 (zpure (.if_icmp .gt 36) 376 409 [] ls st h)) ∧
  (∀ (ls : zL) (st : zS) (h : zH), zx 241 376 ls st h = zgo 241 (zpure (.aload_n 0) 377 0 [] ls st h)) ∧
  (∀ (ls : zL) (st : zS) (h : zH), zx 241 377 ls st h = zca 241 377 380 ls 234 2 0 (ztake 1 st) h) ∧
  (∀ (ls : zL) (st : zS) (h : zH), zx 241 380 ls st h = zgo 241 (zpure (.ldc 112) 382 0 [1, 1091567616] ls st h)) ∧
  (∀ (ls : zL) (st : zS) (h : zH), zx 241 382 ls st h = zgo 241 (zpure (.fcmp .l) 383 0 [] ls st h)) ∧
  (∀ (ls : zL) (st : zS) (h : zH), zx 241 383 ls st h = zgo 241 (zpure (.ifCond .eq 22) 386 405 [] ls st h)) ∧
  (∀ (ls : zL) (st : zS) (h : zH), zx 241 386 ls st h = zgo 241 (zpure (.aload_n 0) 387 0 [] ls st h)) ∧
  (∀ (ls : zL) (st : zS) (h : zH), zx 241 387 ls st h = zca 241 387 390 ls 234 2 0 (ztake 1 st) h) ∧
  (∀ (ls : zL) (st : zS) (h : zH), zx 241 390 ls st h = zgo 241 (zpure (.fconst 0) 391 0 [] ls st h)) ∧
  (∀ (ls : zL) (st : zS) (h : zH), zx 241 391 ls st h = zgo 241 (zpure (.fcmp .g) 392 0 [] ls st h)) ∧
  (∀ (ls : zL) (st : zS) (h : zH), zx 241 392 ls st h = zgo 241 (zpure (.ifCond .gt 17) 395 409 [] ls st h)) ∧
  (∀ (ls : zL) (st : zS) (h : zH), zx 241 395 ls st h = zgo 241 (zpure (.aload_n 0) 396 0 [] ls st h)) ∧
  (∀ (ls : zL) (st : zS) (h : zH), zx 241 396 ls st h = zca 241 396 399 ls 234 2 0 (ztake 1 st) h) ∧
  (∀ (ls : zL) (st : zS) (h : zH), zx 241 399 ls st h = zgo 241 (zpure (.ldc 191) 401 0 [1, 3262119936] ls st h)) ∧
  (∀ (ls : zL) (st : zS) (h : zH), zx 241 401 ls st h = zgo 241 (zpure (.fcmp .l) 402 0 [] ls st h)) ∧
  (∀ (ls : zL) (st : zS) (h : zH), zx 241 402 ls st h = zgo 241 (zpure (.ifCond .lt 7) 405 409 [] ls st h)) ∧
  (∀ (ls : zL) (st : zS) (h : zH), zx 241 405 ls st h = zgo 241 (zpure (.iconst 1) 406 0 [] ls st h)) ∧
  (∀ (ls : zL) (st : zS) (h : zH), zx 241 406 ls st h = zgo 241 (zpure (.goto 4) 409 410 [] ls st h)) ∧
  (∀ (ls : zL) (st : zS) (h : zH), zx 241 409 ls st h = zgo 241 (zpure (.iconst 0) 410 0 [] ls st h)) ∧
  (∀ (ls : zL) (st : zS) (h : zH), zx 241 410 ls st h = zret 1 st h) :=
  ⟨zx_0 rfl, zx_0 rfl, zx_0 rfl, zx_0 rfl, zx_2c rfl, zx_0 rfl, zx_0 rfl, zx_0 rfl, zx_1 rfl, zx_0 rfl, zx_0 rfl, zx_0 rfl, zx_0 rfl, zx_0 rfl, zx_0 rfl, zx_0 rfl, zx_0 rfl, zx_2c rfl, zx_0 rfl, zx_0 rfl, zx_0 rfl, zx_0 rfl, zx_2c rfl, zx_0 rfl, zx_0 rfl, zx_0 rfl, zx_0 rfl, zx_2c rfl, zx_0 rfl, zx_0 rfl, zx_0 rfl, zx_0 rfl, zx_0 rfl, zx_0 rfl, zx_1 rfl⟩
theorem z242_14 : ∀ (ls : zL) (st : zS) (h : zH), zx 242 14 ls st h = zgo 242 (zpure (.iload 5) 16 0 [] ls st h) := zx_0 rfl
/-- L_isFilled -/
theorem z242 :
  (∀ (ls : zL) (st : zS) (h : zH), zx 242 0 ls st h = zgo 242 (zpure (.aload_n 0) 1 0 [] ls st h)) ∧
  (∀ (ls : zL) (st : zS) (h : zH), zx 242 1 ls st h = zgo 242 (zpure (.iload_n 1) 2 0 [] ls st h)) ∧
  (∀ (ls : zL) (st : zS) (h : zH), zx 242 2 ls st h = zgo 242 (zpure (.iload_n 2) 3 0 [] ls st h)) ∧
  (∀ (ls : zL) (st : zS) (h : zH), zx 242 3 ls st h = zgo 242 (zpure (.iconst (-1)) 4 0 [] ls st h)) ∧
  (∀ (ls : zL) (st : zS) (h : zH), zx 242 4 ls st h = zca 242 4 7 ls 232 5 0 (ztake 4 st) h) ∧
  (∀ (ls : zL) (st : zS) (h : zH), zx 242 7 ls st h = zgo 242 (zpure (.istore_n 3) 8 0 [] ls st h)) ∧
  (∀ (ls : zL) (st : zS) (h : zH), zx 242 8 ls st h = zgo 242 (zpure (.iconst (-1)) 9 0 [] ls st h)) ∧
  (∀ (ls : zL) (st : zS) (h : zH), zx 242 9 ls st h = zgo 242 (zpure (.istore 4) 11 0 [] ls st h)) ∧
  (∀ (ls : zL) (st : zS) (h : zH), zx 242 11 ls st h = zgo 242 (zpure (.iconst 0) 12 0 [] ls st h)) ∧
  (∀ (ls : zL) (st : zS) (h : zH), zx 242 12 ls st h = zgo 242 (zpure (.istore 5) 14 0 [] ls st h)) ∧
  (∀ (ls : zL) (st : zS) (h : zH), zx 242 16 ls st h = zgo 242 (zpure (.iload_n 3) 17 0 [] ls st h)) ∧
  (∀ (ls : zL) (st : zS) (h : zH), zx 242 17 ls st h = zgo 242 (zpure (.if_icmp .ge 46) 20 63 [] ls st h)) ∧
  (∀ (ls : zL) (st : zS) (h : zH), zx 242 20 ls st h = zgo 242 (zpure (.aload_n 0) 21 0 [] ls st h)) ∧
  (∀ (ls : zL) (st : zS) (h : zH), zx 242 21 ls st h = zgo 242 (zpure (.iload_n 1) 22 0 [] ls st h)) ∧
  (∀ (ls : zL) (st : zS) (h : zH), zx 242 22 ls st h = zgo 242 (zpure (.iload_n 2) 23 0 [] ls st h)) ∧
  (∀ (ls : zL) (st : zS) (h : zH), zx 242 23 ls st h = zgo 242 (zpure (.iload 5) 25 0 [] ls st h)) ∧
  (∀ (ls : zL) (st : zS) (h : zH), zx 242 25 ls st h = zca 242 25 28 ls 232 5 0 (ztake 4 st) h) ∧
  (∀ (ls : zL) (st : zS) (h : zH), zx 242 28 ls st h = zgo 242 (zpure (.istore 6) 30 0 [] ls st h)) ∧
  (∀ (ls : zL) (st : zS) (h : zH), zx 242 30 ls st h = zgo 242 (zpure (.iload 6) 32 0 [] ls st h)) ∧
  (∀ (ls : zL) (st : zS) (h : zH), zx 242 32 ls st h = zgo 242 (zpure (.iload 4) 34 0 [] ls st h)) ∧
  (∀ (ls : zL) (st : zS) (h : zH), zx 242 34 ls st h = zgo 242 (zpure (.if_icmp .le 17) 37 51 [] ls st h)) ∧
  (∀ (ls : zL) (st : zS) (h : zH), zx 242 37 ls st h = zgo 242 (zpure (.aload_n 0) 38 0 [] ls st h)) ∧
  (∀ (ls : zL) (st : zS) (h : zH), zx 242 38 ls st h = zgo 242 (zpure (.iload 6) 40 0 [] ls st h)) ∧
  (∀ (ls : zL) (st : zS) (h : zH), zx 242 40 ls st h = zgo 242 (zpure (.bipush (-99)) 42 0 [] ls st h)) ∧
  (∀ (ls : zL) (st : zS) (h : zH), zx 242 42 ls st h = zca 242 42 45 ls 223 4 0 (ztake 3 st) h) ∧
  (∀ (ls : zL) (st : zS) (h : zH), zx 242 45 ls st h = zgo 242 (zpure (.sipush (-1002)) 48 0 [] ls st h)) ∧
  (∀ (ls : zL) (st : zS) (h : zH), zx 242 48 ls st h = zgo 242 (zpure (.if_icmp .eq 5) 51 53 [] ls st h)) ∧
  (∀ (ls : zL) (st : zS) (h : zH), zx 242 51 ls st h = zgo 242 (zpure (.iconst 0) 52 0 [] ls st h)) ∧
  (∀ (ls : zL) (st : zS) (h : zH), zx 242 52 ls st h = zret 1 st h) ∧
  (∀ (ls : zL) (st : zS) (h : zH), zx 242 53 ls st h = zgo 242 (zpure (.iload 6) 55 0 [] ls st h)) ∧
  (∀ (ls : zL) (st : zS) (h : zH), zx 242 55 ls st h = zgo 242 (zpure (.istore 4) 57 0 [] ls st h)) ∧
  (∀ (ls : zL) (st : zS) (h : zH), zx 242 57 ls st h = zgo 242 (zpure (.iinc 5 1) 60 0 [] ls st h)) ∧
  (∀ (ls : zL) (st : zS) (h : zH), zx 242 60 ls st h = zgo 242 (zpure (.goto (-46)) 63 14 [] ls st h)) ∧
  (∀ (ls : zL) (st : zS) (h : zH), zx 242 63 ls st h = zgo 242 (zpure (.iload_n 3) 64 0 [] ls st h)) ∧
  (∀ (ls : zL) (st : zS) (h : zH), zx 242 64 ls st h = zgo 242 (zpure (.aload_n 0) 65 0 [] ls st h)) ∧
  (∀ (ls : zL) (st : zS) (h : zH), zx 242 65 ls st h = zgo 242 (zpure (.iload_n 1) 66 0 [] ls st h)) ∧
  (∀ (ls : zL) (st : zS) (h : zH), zx 242 66 ls st h = zgo 242 (zpure (.iload_n 2) 67 0 [] ls st h)) ∧
  (∀ (ls : zL) (st : zS) (h : zH), zx 242 67 ls st h = zgo 242 (zpure (.bipush (-2)) 69 0 [] ls st h)) ∧
  (∀ (ls : zL) (st : zS) (h : zH), zx 242 69 ls st h = zca 242 69 72 ls 232 5 0 (ztake 4 st) h) ∧
  (∀ (ls : zL) (st : zS) (h : zH), zx 242 72 ls st h = zgo 242 (zpure (.if_icmp .ne 54) 75 126 [] ls st h)) ∧
  (∀ (ls : zL) (st : zS) (h : zH), zx 242 75 ls st h = zgo 242 (zpure (.iload_n 3) 76 0 [] ls st h)) ∧
  (∀ (ls : zL) (st : zS) (h : zH), zx 242 76 ls st h = zgo 242 (zpure (.ifCond .eq 50) 79 126 [] ls st h)) ∧
  (∀ (ls : zL) (st : zS) (h : zH), zx 242 79 ls st h = zgo 242 (zpure (.iload_n 3) 80 0 [] ls st h)) ∧
  (∀ (ls : zL) (st : zS) (h : zH), zx 242 80 ls st h = zgo 242 (zpure (.ifCond .ge 18) 83 98 [] ls st h)) ∧
  (∀ (ls : zL) (st : zS) (h : zH), zx 242 83 ls st h = zgo 242 (zpure (.aload_n 0) 84 0 [] ls st h)) ∧
  (∀ (ls : zL) (st : zS) (h : zH), zx 242 84 ls st h = zgo 242 (zpure (.iload_n 1) 85 0 [] ls st h)) ∧
  (∀ (ls : zL) (st : zS) (h : zH), zx 242 85 ls st h = zgo 242 (zpure (.iload_n 2) 86 0 [] ls st h)) ∧
  (∀ (ls : zL) (st : zS) (h : zH), zx 242 86 ls st h = zca 242 86 89 ls 233 4 0 (ztake 3 st) h) ∧
  (∀ (ls : zL) (st : zS) (h : zH), zx 242 89 ls st h = zgo 242 (zpure (.ldc 107) 91 0 [1, 3221225472] ls st h)) ∧
  (∀ (ls : zL) (st : zS) (h : zH), zx 242 91 ls st h = zgo 242 (zpure (.fcmp .l) 92 0 [] ls st h)) ∧
  (∀ (ls : zL) (st : zS) (h : zH), zx 242 92 ls st h = zgo 242 (zpure (.ifCond .ne 34) 95 126 [] ls st h)) ∧
  (∀ (ls : zL) (st : zS) (h : zH), zx 242 95 ls st h = zgo 242 (zpure (.goto 27) 98 122 [] ls st h)) ∧
  (∀ (ls : zL) (st : zS) (h : zH), zx 242 98 ls st h = zgo 242 (zpure (.aload_n 0) 99 0 [] ls st h)) ∧
  (∀ (ls : zL) (st : zS) (h : zH), zx 242 99 ls st h = zgo 242 (zpure (.iload_n 1) 100 0 [] ls st h)) ∧
  (∀ (ls : zL) (st : zS) (h : zH), zx 242 100 ls st h = zgo 242 (zpure (.iload_n 2) 101 0 [] ls st h)) ∧
  (∀ (ls : zL) (st : zS) (h : zH), zx 242 101 ls st h = zca 242 101 104 ls 233 4 0 (ztake 3 st) h) ∧
  (∀ (ls : zL) (st : zS) (h : zH), zx 242 104 ls st h = zgo 242 (zpure (.fconst 0) 105 0 [] ls st h)) ∧
  (∀ (ls : zL) (st : zS) (h : zH), zx 242 105 ls st h = zgo 242 (zpure (.fcmp .l) 106 0 [] ls st h)) ∧
  (∀ (ls : zL) (st : zS) (h : zH), zx 242 106 ls st h = zgo 242 (zpure (.ifCond .lt 20) 109 126 [] ls st h)) ∧
  (∀ (ls : zL) (st : zS) (h : zH), zx 242 109 ls st h = zgo 242 (zpure (.aload_n 0) 110 0 [] ls st h)) ∧
  (∀ (ls : zL) (st : zS) (h : zH), zx 242 110 ls st h = zgo 242 (zpure (.iload_n 1) 111 0 [] ls st h)) ∧
  (∀ (ls : zL) (st : zS) (h : zH), zx 242 111 ls st h = zgo 242 (zpure (.iload_n 2) 112 0 [] ls st h)) ∧
  (∀ (ls : zL) (st : zS) (h : zH), zx 242 112 ls st h = zgo 242 (zpure (.iload_n 3) 113 0 [] ls st h)) ∧
  (∀ (ls : zL) (st : zS) (h : zH), zx 242 113 ls st h = zca 242 113 116 ls 232 5 0 (ztake 4 st) h) ∧
  (∀ (ls : zL) (st : zS) (h : zH), zx 242 116 ls st h = zgo 242 (zpure (.sipush (-1002)) 119 0 [] ls st h)) ∧
  (∀ (ls : zL) (st : zS) (h : zH), zx 242 119 ls st h = zgo 242 (zpure (.if_icmp .ne 7) 122 126 [] ls st h)) ∧
  (∀ (ls : zL) (st : zS) (h : zH), zx 242 122 ls st h = zgo 242 (zpure (.iconst 1) 123 0 [] ls st h)) ∧
  (∀ (ls : zL) (st : zS) (h : zH), zx 242 123 ls st h = zgo 242 (zpure (.goto 4) 126 127 [] ls st h)) ∧
  (∀ (ls : zL) (st : zS) (h : zH), zx 242 126 ls st h = zgo 242 (zpure (.iconst 0) 127 0 [] ls st h)) ∧
  (∀ (ls : zL) (st : zS) (h : zH), zx 242 127 ls st h = zret 1 st h) :=
  ⟨zx_0 rfl, zx_0 rfl, zx_0 rfl, zx_0 rfl, zx_2c rfl, zx_0 rfl, zx_0 rfl, zx_0 rfl, zx_0 rfl, zx_0 rfl, zx_0 rfl, zx_0 rfl, zx_0 rfl, zx_0 rfl, zx_0 rfl, zx_0 rfl, zx_2c rfl, zx_0 rfl, zx_0 rfl, zx_0 rfl, zx_0 rfl, zx_0 rfl, zx_0 rfl, zx_0 rfl, zx_2c rfl, zx_0 rfl, zx_0 rfl, zx_0 rfl, zx_1 rfl, zx_0 rfl, zx_0 rfl, zx_0 rfl, zx_0 rfl, zx_0 rfl, zx_0 rfl, zx_0 rfl, zx_0 rfl, zx_0 rfl, zx_2c rfl, zx_0 rfl, zx_0 rfl, zx_0 rfl, zx_0 rfl, zx_0 rfl, zx_0 rfl, zx_0 rfl, zx_0 rfl, zx_2c rfl, zx_0 rfl, zx_0 rfl, zx_0 rfl, zx_0 rfl, zx_0 rfl, zx_0 rfl, zx_0 rfl, zx_2c rfl, zx_0 rfl, zx_0 rfl, zx_0 rfl, zx_0 rfl, zx_0 rfl, zx_0 rfl, zx_0 rfl, zx_2c rfl, zx_0 rfl, zx_0 rfl, zx_0 rfl, zx_0 rfl, zx_0 rfl, zx_1 rfl⟩
theorem z243_21 : ∀ (ls : zL) (st : zS) (h : zH), zx 243 21 ls st h = zgo 243 (zpure (.iload_n 3) 22 0 [] ls st h) := zx_0 rfl
set_option maxRecDepth 4000 in
theorem z243_b0 :
  (∀ (ls : zL) (st : zS) (h : zH), zx 243 0 ls st h = zgo 243 (zpure (.new 8) 3 0 [5, 8] ls st h)) ∧
  (∀ (ls : zL) (st : zS) (h : zH), zx 243 3 ls st h = zgo 243 (zpure .dup 4 0 [] ls st h)) ∧
  (∀ (ls : zL) (st : zS) (h : zH), zx 243 4 ls st h = zca 243 4 7 ls 41 1 100 (ztake 1 st) h) ∧
  (∀ (ls : zL) (st : zS) (h : zH), zx 243 7 ls st h = zgo 243 (zpure (.astore_n 1) 8 0 [] ls st h)) ∧
  (∀ (ls : zL) (st : zS) (h : zH), zx 243 8 ls st h = zgo 243 (zpure (.aload_n 0) 9 0 [] ls st h)) ∧
  (∀ (ls : zL) (st : zS) (h : zH), zx 243 9 ls st h = zgo 243 (zpure (.iconst 0) 10 0 [] ls st h)) ∧
  (∀ (ls : zL) (st : zS) (h : zH), zx 243 10 ls st h = zca 243 10 13 ls 220 2 0 (ztake 2 st) h) ∧
  (∀ (ls : zL) (st : zS) (h : zH), zx 243 13 ls st h = zgo 243 (zpure (.bipush 52) 15 0 [] ls st h)) ∧
  (∀ (ls : zL) (st : zS) (h : zH), zx 243 15 ls st h = zca 243 15 18 ls 221 3 0 (ztake 2 st) h) ∧
  (∀ (ls : zL) (st : zS) (h : zH), zx 243 18 ls st h = zgo 243 (zpure (.istore_n 2) 19 0 [] ls st h)) ∧
  (∀ (ls : zL) (st : zS) (h : zH), zx 243 19 ls st h = zgo 243 (zpure (.iconst 0) 20 0 [] ls st h)) ∧
  (∀ (ls : zL) (st : zS) (h : zH), zx 243 20 ls st h = zgo 243 (zpure (.istore_n 3) 21 0 [] ls st h)) ∧
  (∀ (ls : zL) (st : zS) (h : zH), zx 243 22 ls st h = zgo 243 (zpure (.iload_n 2) 23 0 [] ls st h)) ∧
  (∀ (ls : zL) (st : zS) (h : zH), zx 243 23 ls st h = zgo 243 (zpure (.if_icmp .ge 578) 26 601 [] ls st h)) ∧
  (∀ (ls : zL) (st : zS) (h : zH), zx 243 26 ls st h = zgo 243 (zpure (.aload_n 0) 27 0 [] ls st h)) ∧
  (∀ (ls : zL) (st : zS) (h : zH), zx 243 27 ls st h = zgo 243 (zpure (.iconst 1) 28 0 [] ls st h)) ∧
  (∀ (ls : zL) (st : zS) (h : zH), zx 243 28 ls st h = zgo 243 (zpure (.iload_n 3) 29 0 [] ls st h)) ∧
  (∀ (ls : zL) (st : zS) (h : zH), zx 243 29 ls st h = zgo 243 (zpure .iadd 30 0 [] ls st h)) ∧
  (∀ (ls : zL) (st : zS) (h : zH), zx 243 30 ls st h = zca 243 30 33 ls 220 2 0 (ztake 2 st) h) ∧
  (∀ (ls : zL) (st : zS) (h : zH), zx 243 33 ls st h = zgo 243 (zpure (.ldc 206) 35 0 [0, 100000000] ls st h)) ∧
  (∀ (ls : zL) (st : zS) (h : zH), zx 243 35 ls st h = zca 243 35 38 ls 221 3 0 (ztake 2 st) h) ∧
  (∀ (ls : zL) (st : zS) (h : zH), zx 243 38 ls st h = zgo 243 (zpure (.istore 4) 40 0 [] ls st h)) ∧
  (∀ (ls : zL) (st : zS) (h : zH), zx 243 40 ls st h = zgo 243 (zpure (.iload 4) 42 0 [] ls st h)) ∧
  (∀ (ls : zL) (st : zS) (h : zH), zx 243 42 ls st h = zgo 243 (zpure (.bipush 20) 44 0 [] ls st h)) ∧
  (∀ (ls : zL) (st : zS) (h : zH), zx 243 44 ls st h = zgo 243 (zpure .idiv 45 0 [] ls st h)) ∧
  (∀ (ls : zL) (st : zS) (h : zH), zx 243 45 ls st h = zgo 243 (zpure (.istore 5) 47 0 [] ls st h)) ∧
  (∀ (ls : zL) (st : zS) (h : zH), zx 243 47 ls st h = zgo 243 (zpure (.iconst 1) 48 0 [] ls st h)) ∧
  (∀ (ls : zL) (st : zS) (h : zH), zx 243 48 ls st h = zgo 243 (zpure (.aload_n 1) 49 0 [] ls st h)) ∧
  (∀ (ls : zL) (st : zS) (h : zH), zx 243 49 ls st h = zca 243 49 52 ls 239 2 0 (ztake 1 st) h) ∧
  (∀ (ls : zL) (st : zS) (h : zH), zx 243 52 ls st h = zgo 243 (zpure (.invokestatic 207) 55 0 [1] ls st h)) ∧
  (∀ (ls : zL) (st : zS) (h : zH), zx 243 55 ls st h = zgo 243 (zpure (.istore 6) 57 0 [] ls st h)) ∧
  (∀ (ls : zL) (st : zS) (h : zH), zx 243 57 ls st h = zgo 243 (zpure (.iconst 1) 58 0 [] ls st h)) ∧
  (∀ (ls : zL) (st : zS) (h : zH), zx 243 58 ls st h = zgo 243 (zpure (.aload_n 1) 59 0 [] ls st h)) ∧
  (∀ (ls : zL) (st : zS) (h : zH), zx 243 59 ls st h = zca 243 59 62 ls 51 1 6 (ztake 1 st) h) ∧
  (∀ (ls : zL) (st : zS) (h : zH), zx 243 62 ls st h = zgo 243 (zpure (.invokestatic 207) 65 0 [1] ls st h)) ∧
  (∀ (ls : zL) (st : zS) (h : zH), zx 243 65 ls st h = zgo 243 (zpure (.istore 7) 67 0 [] ls st h)) ∧
  (∀ (ls : zL) (st : zS) (h : zH), zx 243 67 ls st h = zgo 243 (zpure (.iload_n 3) 68 0 [] ls st h)) ∧
  (∀ (ls : zL) (st : zS) (h : zH), zx 243 68 ls st h = zgo 243 (zpure (.iconst 3) 69 0 [] ls st h)) ∧
  (∀ (ls : zL) (st : zS) (h : zH), zx 243 69 ls st h = zgo 243 (zpure .irem 70 0 [] ls st h)) ∧
  (∀ (ls : zL) (st : zS) (h : zH), zx 243 70 ls st h = zgo 243 (zpure (.ifCond .ne 7) 73 77 [] ls st h)) ∧
  (∀ (ls : zL) (st : zS) (h : zH), zx 243 73 ls st h = zgo 243 (zpure (.iconst 1) 74 0 [] ls st h)) ∧
  (∀ (ls : zL) (st : zS) (h : zH), zx 243 74 ls st h = zgo 243 (zpure (.goto 4) 77 78 [] ls st h)) ∧
  (∀ (ls : zL) (st : zS) (h : zH), zx 243 77 ls st h = zgo 243 (zpure (.iconst 0) 78 0 [] ls st h)) ∧
  (∀ (ls : zL) (st : zS) (h : zH), zx 243 78 ls st h = zgo 243 (zpure (.istore 8) 80 0 [] ls st h)) ∧
  (∀ (ls : zL) (st : zS) (h : zH), zx 243 80 ls st h = zgo 243 (zpure (.iload 8) 82 0 [] ls st h)) ∧
  (∀ (ls : zL) (st : zS) (h : zH), zx 243 82 ls st h = zgo 243 (zpure (.ifCond .eq 10) 85 92 [] ls st h)) ∧
  (∀ (ls : zL) (st : zS) (h : zH), zx 243 85 ls st h = zgo 243 (zpure (.aload_n 1) 86 0 [] ls st h)) ∧
  (∀ (ls : zL) (st : zS) (h : zH), zx 243 86 ls st h = zca 243 86 89 ls 240 4 0 (ztake 1 st) h) ∧
  (∀ (ls : zL) (st : zS) (h : zH), zx 243 89 ls st h = zgo 243 (zpure (.goto 4) 92 93 [] ls st h)) ∧
  (∀ (ls : zL) (st : zS) (h : zH), zx 243 92 ls st h = zgo 243 (zpure (.lconst 0) 93 0 [] ls st h)) ∧
  (∀ (ls : zL) (st : zS) (h : zH), zx 243 93 ls st h = zgo 243 (zpure (.lstore 9) 95 0 [] ls st h)) ∧
  (∀ (ls : zL) (st : zS) (h : zH), zx 243 95 ls st h = zgo 243 (zpure (.iconst 0) 96 0 [] ls st h)) ∧
  (∀ (ls : zL) (st : zS) (h : zH), zx 243 96 ls st h = zgo 243 (zpure (.istore 11) 98 0 [] ls st h)) ∧
  (∀ (ls : zL) (st : zS) (h : zH), zx 243 98 ls st h = zgo 243 (zpure (.iload_n 3) 99 0 [] ls st h)) ∧
  (∀ (ls : zL) (st : zS) (h : zH), zx 243 99 ls st h = zgo 243 (zpure (.iconst 2) 100 0 [] ls st h)) ∧
  (∀ (ls : zL) (st : zS) (h : zH), zx 243 100 ls st h = zgo 243 (zpure (.if_icmp .ge 7) 103 107 [] ls st h)) ∧
  (∀ (ls : zL) (st : zS) (h : zH), zx 243 103 ls st h = zgo 243 (zpure (.iconst 0) 104 0 [] ls st h)) ∧
  (∀ (ls : zL) (st : zS) (h : zH), zx 243 104 ls st h = zgo 243 (zpure (.goto 17) 107 121 [] ls st h)) ∧
  (∀ (ls : zL) (st : zS) (h : zH), zx 243 107 ls st h = zgo 243 (zpure (.iload_n 3) 108 0 [] ls st h)) ∧
  (∀ (ls : zL) (st : zS) (h : zH), zx 243 108 ls st h = zgo 243 (zpure (.iconst 5) 109 0 [] ls st h)) :=
  ⟨zx_0 rfl, zx_0 rfl, zx_2c rfl, zx_0 rfl, zx_0 rfl, zx_0 rfl, zx_2c rfl, zx_0 rfl, zx_2c rfl, zx_0 rfl, zx_0 rfl, zx_0 rfl, zx_0 rfl, zx_0 rfl, zx_0 rfl, zx_0 rfl, zx_0 rfl, zx_0 rfl, zx_2c rfl, zx_0 rfl, zx_2c rfl, zx_0 rfl, zx_0 rfl, zx_0 rfl, zx_0 rfl, zx_0 rfl, zx_0 rfl, zx_0 rfl, zx_2c rfl, zx_0 rfl, zx_0 rfl, zx_0 rfl, zx_0 rfl, zx_2c rfl, zx_0 rfl, zx_0 rfl, zx_0 rfl, zx_0 rfl, zx_0 rfl, zx_0 rfl, zx_0 rfl, zx_0 rfl, zx_0 rfl, zx_0 rfl, zx_0 rfl, zx_0 rfl, zx_0 rfl, zx_2c rfl, zx_0 rfl, zx_0 rfl, zx_0 rfl, zx_0 rfl, zx_0 rfl, zx_0 rfl, zx_0 rfl, zx_0 rfl, zx_0 rfl, zx_0 rfl, zx_0 rfl, zx_0 rfl⟩
set_option maxRecDepth 4000 in
theorem z243_b1 :
  (∀ (ls : zL) (st : zS) (h : zH), zx 243 109 ls st h = zgo 243 (zpure (.if_icmp .ge 7) 112 116 [] ls st h)) ∧
  (∀ (ls : zL) (st : zS) (h : zH), zx 243 112 ls st h = zgo 243 (zpure (.iconst 2) 113 0 [] ls st h)) ∧
  (∀ (ls : zL) (st : zS) (h : zH), zx 243 113 ls st h = zgo 243 (zpure (.goto 8) 116 121 [] ls st h)) ∧
  (∀ (ls : zL) (st : zS) (h : zH), zx 243 116 ls st h = zgo 243 (zpure (.iload 4) 118 0 [] ls st h)) ∧
  (∀ (ls : zL) (st : zS) (h : zH), zx 243 118 ls st h = zgo 243 (zpure (.bipush 20) 120 0 [] ls st h)) ∧
  (∀ (ls : zL) (st : zS) (h : zH), zx 243 120 ls st h = zgo 243 (zpure .irem 121 0 [] ls st h)) ∧
  (∀ (ls : zL) (st : zS) (h : zH), zx 243 121 ls st h = zgo 243 (zpure (.istore 12) 123 0 [] ls st h)) ∧
  (∀ (ls : zL) (st : zS) (h : zH), zx 243 123 ls st h = zgo 243 (zpure (.iload 12) 125 0 [] ls st h)) ∧
  (∀ (ls : zL) (st : zS) (h : zH), zx 243 125 ls st h = zgo 243 (zpure (.iconst 2) 126 0 [] ls st h)) ∧
  (∀ (ls : zL) (st : zS) (h : zH), zx 243 126 ls st h = zgo 243 (zpure (.if_icmp .ge 43) 129 169 [] ls st h)) ∧
  (∀ (ls : zL) (st : zS) (h : zH), zx 243 129 ls st h = zgo 243 (zpure (.aload_n 1) 130 0 [] ls st h)) ∧
  (∀ (ls : zL) (st : zS) (h : zH), zx 243 130 ls st h = zgo 243 (zpure (.bipush 30) 132 0 [] ls st h)) ∧
  (∀ (ls : zL) (st : zS) (h : zH), zx 243 132 ls st h = zgo 243 (zpure (.iconst 1) 133 0 [] ls st h)) ∧
  (∀ (ls : zL) (st : zS) (h : zH), zx 243 133 ls st h = zgo 243 (zpure (.iload 5) 135 0 [] ls st h)) ∧
  (∀ (ls : zL) (st : zS) (h : zH), zx 243 135 ls st h = zgo 243 (zpure (.bipush 25) 137 0 [] ls st h)) ∧
  (∀ (ls : zL) (st : zS) (h : zH), zx 243 137 ls st h = zgo 243 (zpure .irem 138 0 [] ls st h)) ∧
  (∀ (ls : zL) (st : zS) (h : zH), zx 243 138 ls st h = zgo 243 (zpure .iadd 139 0 [] ls st h)) ∧
  (∀ (ls : zL) (st : zS) (h : zH), zx 243 139 ls st h = zgo 243 (zpure .imul 140 0 [] ls st h)) ∧
  (∀ (ls : zL) (st : zS) (h : zH), zx 243 140 ls st h = zgo 243 (zpure (.iload 5) 142 0 [] ls st h)) ∧
  (∀ (ls : zL) (st : zS) (h : zH), zx 243 142 ls st h = zgo 243 (zpure (.bipush 25) 144 0 [] ls st h)) ∧
  (∀ (ls : zL) (st : zS) (h : zH), zx 243 144 ls st h = zgo 243 (zpure .idiv 145 0 [] ls st h)) ∧
  (∀ (ls : zL) (st : zS) (h : zH), zx 243 145 ls st h = zgo 243 (zpure (.bipush 60) 147 0 [] ls st h)) ∧
  (∀ (ls : zL) (st : zS) (h : zH), zx 243 147 ls st h = zgo 243 (zpure .irem 148 0 [] ls st h)) ∧
  (∀ (ls : zL) (st : zS) (h : zH), zx 243 148 ls st h = zgo 243 (zpure .ineg 149 0 [] ls st h)) ∧
  (∀ (ls : zL) (st : zS) (h : zH), zx 243 149 ls st h = zgo 243 (zpure (.iload 5) 151 0 [] ls st h)) ∧
  (∀ (ls : zL) (st : zS) (h : zH), zx 243 151 ls st h = zgo 243 (zpure (.sipush 1500) 154 0 [] ls st h)) ∧
  (∀ (ls : zL) (st : zS) (h : zH), zx 243 154 ls st h = zgo 243 (zpure .idiv 155 0 [] ls st h)) ∧
  (∀ (ls : zL) (st : zS) (h : zH), zx 243 155 ls st h = zgo 243 (zpure (.iconst 5) 156 0 [] ls st h)) ∧
  (∀ (ls : zL) (st : zS) (h : zH), zx 243 156 ls st h = zgo 243 (zpure .irem 157 0 [] ls st h)) ∧
  (∀ (ls : zL) (st : zS) (h : zH), zx 243 157 ls st h = zgo 243 (zpure (.iconst 0) 158 0 [] ls st h)) ∧
  (∀ (ls : zL) (st : zS) (h : zH), zx 243 158 ls st h = zgo 243 (zpure (.sipush 999) 161 0 [] ls st h)) ∧
  (∀ (ls : zL) (st : zS) (h : zH), zx 243 161 ls st h = zca 243 161 164 ls 222 7 0 (ztake 6 st) h) ∧
  (∀ (ls : zL) (st : zS) (h : zH), zx 243 164 ls st h = zgo 243 (zpure (.istore 11) 166 0 [] ls st h)) ∧
  (∀ (ls : zL) (st : zS) (h : zH), zx 243 166 ls st h = zgo 243 (zpure (.goto 386) 169 552 [] ls st h)) ∧
  (∀ (ls : zL) (st : zS) (h : zH), zx 243 169 ls st h = zgo 243 (zpure (.iload 12) 171 0 [] ls st h)) ∧
  (∀ (ls : zL) (st : zS) (h : zH), zx 243 171 ls st h = zgo 243 (zpure (.iconst 4) 172 0 [] ls st h)) ∧
  (∀ (ls : zL) (st : zS) (h : zH), zx 243 172 ls st h = zgo 243 (zpure (.if_icmp .ge 43) 175 215 [] ls st h)) ∧
  (∀ (ls : zL) (st : zS) (h : zH), zx 243 175 ls st h = zgo 243 (zpure (.aload_n 1) 176 0 [] ls st h)) ∧
  (∀ (ls : zL) (st : zS) (h : zH), zx 243 176 ls st h = zgo 243 (zpure (.bipush 15) 178 0 [] ls st h)) ∧
  (∀ (ls : zL) (st : zS) (h : zH), zx 243 178 ls st h = zgo 243 (zpure (.iconst 1) 179 0 [] ls st h)) ∧
  (∀ (ls : zL) (st : zS) (h : zH), zx 243 179 ls st h = zgo 243 (zpure (.iload 5) 181 0 [] ls st h)) ∧
  (∀ (ls : zL) (st : zS) (h : zH), zx 243 181 ls st h = zgo 243 (zpure (.bipush 25) 183 0 [] ls st h)) ∧
  (∀ (ls : zL) (st : zS) (h : zH), zx 243 183 ls st h = zgo 243 (zpure .irem 184 0 [] ls st h)) ∧
  (∀ (ls : zL) (st : zS) (h : zH), zx 243 184 ls st h = zgo 243 (zpure .iadd 185 0 [] ls st h)) ∧
  (∀ (ls : zL) (st : zS) (h : zH), zx 243 185 ls st h = zgo 243 (zpure .imul 186 0 [] ls st h)) ∧
  (∀ (ls : zL) (st : zS) (h : zH), zx 243 186 ls st h = zgo 243 (zpure (.iload 5) 188 0 [] ls st h)) ∧
  (∀ (ls : zL) (st : zS) (h : zH), zx 243 188 ls st h = zgo 243 (zpure (.bipush 25) 190 0 [] ls st h)) ∧
  (∀ (ls : zL) (st : zS) (h : zH), zx 243 190 ls st h = zgo 243 (zpure .idiv 191 0 [] ls st h)) ∧
  (∀ (ls : zL) (st : zS) (h : zH), zx 243 191 ls st h = zgo 243 (zpure (.bipush 60) 193 0 [] ls st h)) ∧
  (∀ (ls : zL) (st : zS) (h : zH), zx 243 193 ls st h = zgo 243 (zpure .irem 194 0 [] ls st h)) ∧
  (∀ (ls : zL) (st : zS) (h : zH), zx 243 194 ls st h = zgo 243 (zpure .ineg 195 0 [] ls st h)) ∧
  (∀ (ls : zL) (st : zS) (h : zH), zx 243 195 ls st h = zgo 243 (zpure (.iconst (-1)) 196 0 [] ls st h)) ∧
  (∀ (ls : zL) (st : zS) (h : zH), zx 243 196 ls st h = zgo 243 (zpure (.iload 5) 198 0 [] ls st h)) ∧
  (∀ (ls : zL) (st : zS) (h : zH), zx 243 198 ls st h = zgo 243 (zpure (.sipush 1500) 201 0 [] ls st h)) ∧
  (∀ (ls : zL) (st : zS) (h : zH), zx 243 201 ls st h = zgo 243 (zpure .idiv 202 0 [] ls st h)) ∧
  (∀ (ls : zL) (st : zS) (h : zH), zx 243 202 ls st h = zgo 243 (zpure (.iconst 2) 203 0 [] ls st h)) ∧
  (∀ (ls : zL) (st : zS) (h : zH), zx 243 203 ls st h = zgo 243 (zpure .irem 204 0 [] ls st h)) ∧
  (∀ (ls : zL) (st : zS) (h : zH), zx 243 204 ls st h = zgo 243 (zpure (.sipush 500) 207 0 [] ls st h)) ∧
  (∀ (ls : zL) (st : zS) (h : zH), zx 243 207 ls st h = zca 243 207 210 ls 222 7 0 (ztake 6 st) h) ∧
  (∀ (ls : zL) (st : zS) (h : zH), zx 243 210 ls st h = zgo 243 (zpure (.istore 11) 212 0 [] ls st h)) :=
  ⟨zx_0 rfl, zx_0 rfl, zx_0 rfl, zx_0 rfl, zx_0 rfl, zx_0 rfl, zx_0 rfl, zx_0 rfl, zx_0 rfl, zx_0 rfl, zx_0 rfl, zx_0 rfl, zx_0 rfl, zx_0 rfl, zx_0 rfl, zx_0 rfl, zx_0 rfl, zx_0 rfl, zx_0 rfl, zx_0 rfl, zx_0 rfl, zx_0 rfl, zx_0 rfl, zx_0 rfl, zx_0 rfl, zx_0 rfl, zx_0 rfl, zx_0 rfl, zx_0 rfl, zx_0 rfl, zx_0 rfl, zx_2c rfl, zx_0 rfl, zx_0 rfl, zx_0 rfl, zx_0 rfl, zx_0 rfl, zx_0 rfl, zx_0 rfl, zx_0 rfl, zx_0 rfl, zx_0 rfl, zx_0 rfl, zx_0 rfl, zx_0 rfl, zx_0 rfl, zx_0 rfl, zx_0 rfl, zx_0 rfl, zx_0 rfl, zx_0 rfl, zx_0 rfl, zx_0 rfl, zx_0 rfl, zx_0 rfl, zx_0 rfl, zx_0 rfl, zx_0 rfl, zx_2c rfl, zx_0 rfl⟩
set_option maxRecDepth 4000 in
theorem z243_b2 :
  (∀ (ls : zL) (st : zS) (h : zH), zx 243 212 ls st h = zgo 243 (zpure (.goto 340) 215 552 [] ls st h)) ∧
  (∀ (ls : zL) (st : zS) (h : zH), zx 243 215 ls st h = zgo 243 (zpure (.iload 12) 217 0 [] ls st h)) ∧
  (∀ (ls : zL) (st : zS) (h : zH), zx 243 217 ls st h = zgo 243 (zpure (.bipush 10) 219 0 [] ls st h)) ∧
  (∀ (ls : zL) (st : zS) (h : zH), zx 243 219 ls st h = zgo 243 (zpure (.if_icmp .ge 52) 222 271 [] ls st h)) ∧
  (∀ (ls : zL) (st : zS) (h : zH), zx 243 222 ls st h = zgo 243 (zpure (.aload_n 1) 223 0 [] ls st h)) ∧
  (∀ (ls : zL) (st : zS) (h : zH), zx 243 223 ls st h = zgo 243 (zpure (.iload 5) 225 0 [] ls st h)) ∧
  (∀ (ls : zL) (st : zS) (h : zH), zx 243 225 ls st h = zgo 243 (zpure (.aload_n 1) 226 0 [] ls st h)) ∧
  (∀ (ls : zL) (st : zS) (h : zH), zx 243 226 ls st h = zca 243 226 229 ls 51 1 6 (ztake 1 st) h) ∧
  (∀ (ls : zL) (st : zS) (h : zH), zx 243 229 ls st h = zgo 243 (zpure (.iconst 1) 230 0 [] ls st h)) ∧
  (∀ (ls : zL) (st : zS) (h : zH), zx 243 230 ls st h = zgo 243 (zpure .iadd 231 0 [] ls st h)) ∧
  (∀ (ls : zL) (st : zS) (h : zH), zx 243 231 ls st h = zgo 243 (zpure .irem 232 0 [] ls st h)) ∧
  (∀ (ls : zL) (st : zS) (h : zH), zx 243 232 ls st h = zgo 243 (zpure (.iload 5) 234 0 [] ls st h)) ∧
  (∀ (ls : zL) (st : zS) (h : zH), zx 243 234 ls st h = zgo 243 (zpure (.bipush 13) 236 0 [] ls st h)) ∧
  (∀ (ls : zL) (st : zS) (h : zH), zx 243 236 ls st h = zgo 243 (zpure .idiv 237 0 [] ls st h)) ∧
  (∀ (ls : zL) (st : zS) (h : zH), zx 243 237 ls st h = zgo 243 (zpure (.iload 6) 239 0 [] ls st h)) ∧
  (∀ (ls : zL) (st : zS) (h : zH), zx 243 239 ls st h = zgo 243 (zpure .irem 240 0 [] ls st h)) ∧
  (∀ (ls : zL) (st : zS) (h : zH), zx 243 240 ls st h = zgo 243 (zpure (.ldc 220) 253 0 [3, 5] ls st h)) ∧
  (∀ (ls : zL) (st : zS) (h : zH), zx 243 253 ls st h = zgo 243 (zpure (.iload 5) 255 0 [] ls st h)) ∧
  (∀ (ls : zL) (st : zS) (h : zH), zx 243 255 ls st h = zgo 243 (zpure (.sipush 624) 258 0 [] ls st h)) ∧
  (∀ (ls : zL) (st : zS) (h : zH), zx 243 258 ls st h = zgo 243 (zpure .idiv 259 0 [] ls st h)) ∧
  (∀ (ls : zL) (st : zS) (h : zH), zx 243 259 ls st h = zgo 243 (zpure (.sipush 3600) 262 0 [] ls st h)) ∧
  (∀ (ls : zL) (st : zS) (h : zH), zx 243 262 ls st h = zgo 243 (zpure .irem 263 0 [] ls st h)) ∧
  (∀ (ls : zL) (st : zS) (h : zH), zx 243 263 ls st h = zca 243 263 266 ls 224 6 0 (ztake 5 st) h) ∧
  (∀ (ls : zL) (st : zS) (h : zH), zx 243 266 ls st h = zgo 243 (zpure (.istore 11) 268 0 [] ls st h)) ∧
  (∀ (ls : zL) (st : zS) (h : zH), zx 243 268 ls st h = zgo 243 (zpure (.goto 284) 271 552 [] ls st h)) ∧
  (∀ (ls : zL) (st : zS) (h : zH), zx 243 271 ls st h = zgo 243 (zpure (.iload 12) 273 0 [] ls st h)) ∧
  (∀ (ls : zL) (st : zS) (h : zH), zx 243 273 ls st h = zgo 243 (zpure (.bipush 11) 275 0 [] ls st h)) ∧
  (∀ (ls : zL) (st : zS) (h : zH), zx 243 275 ls st h = zgo 243 (zpure (.if_icmp .ge 19) 278 294 [] ls st h)) ∧
  (∀ (ls : zL) (st : zS) (h : zH), zx 243 278 ls st h = zgo 243 (zpure (.aload_n 1) 279 0 [] ls st h)) ∧
  (∀ (ls : zL) (st : zS) (h : zH), zx 243 279 ls st h = zgo 243 (zpure (.iload 5) 281 0 [] ls st h)) ∧
  (∀ (ls : zL) (st : zS) (h : zH), zx 243 281 ls st h = zgo 243 (zpure (.iload 7) 283 0 [] ls st h)) ∧
  (∀ (ls : zL) (st : zS) (h : zH), zx 243 283 ls st h = zgo 243 (zpure .irem 284 0 [] ls st h)) ∧
  (∀ (ls : zL) (st : zS) (h : zH), zx 243 284 ls st h = zgo 243 (zpure (.iconst 0) 285 0 [] ls st h)) ∧
  (∀ (ls : zL) (st : zS) (h : zH), zx 243 285 ls st h = zgo 243 (zpure (.iconst 0) 286 0 [] ls st h)) ∧
  (∀ (ls : zL) (st : zS) (h : zH), zx 243 286 ls st h = zca 243 286 289 ls 225 5 0 (ztake 4 st) h) ∧
  (∀ (ls : zL) (st : zS) (h : zH), zx 243 289 ls st h = zgo 243 (zpure (.istore 11) 291 0 [] ls st h)) ∧
  (∀ (ls : zL) (st : zS) (h : zH), zx 243 291 ls st h = zgo 243 (zpure (.goto 261) 294 552 [] ls st h)) ∧
  (∀ (ls : zL) (st : zS) (h : zH), zx 243 294 ls st h = zgo 243 (zpure (.iload 12) 296 0 [] ls st h)) ∧
  (∀ (ls : zL) (st : zS) (h : zH), zx 243 296 ls st h = zgo 243 (zpure (.bipush 12) 298 0 [] ls st h)) ∧
  (∀ (ls : zL) (st : zS) (h : zH), zx 243 298 ls st h = zgo 243 (zpure (.if_icmp .ge 26) 301 324 [] ls st h)) ∧
  (∀ (ls : zL) (st : zS) (h : zH), zx 243 301 ls st h = zgo 243 (zpure (.aload_n 1) 302 0 [] ls st h)) ∧
  (∀ (ls : zL) (st : zS) (h : zH), zx 243 302 ls st h = zgo 243 (zpure (.iload 5) 304 0 [] ls st h)) ∧
  (∀ (ls : zL) (st : zS) (h : zH), zx 243 304 ls st h = zgo 243 (zpure (.iload 7) 306 0 [] ls st h)) ∧
  (∀ (ls : zL) (st : zS) (h : zH), zx 243 306 ls st h = zgo 243 (zpure .irem 307 0 [] ls st h)) ∧
  (∀ (ls : zL) (st : zS) (h : zH), zx 243 307 ls st h = zgo 243 (zpure (.iload 5) 309 0 [] ls st h)) ∧
  (∀ (ls : zL) (st : zS) (h : zH), zx 243 309 ls st h = zgo 243 (zpure (.bipush 12) 311 0 [] ls st h)) ∧
  (∀ (ls : zL) (st : zS) (h : zH), zx 243 311 ls st h = zgo 243 (zpure .idiv 312 0 [] ls st h)) ∧
  (∀ (ls : zL) (st : zS) (h : zH), zx 243 312 ls st h = zgo 243 (zpure (.iload 7) 314 0 [] ls st h)) ∧
  (∀ (ls : zL) (st : zS) (h : zH), zx 243 314 ls st h = zgo 243 (zpure .irem 315 0 [] ls st h)) ∧
  (∀ (ls : zL) (st : zS) (h : zH), zx 243 315 ls st h = zgo 243 (zpure (.iconst 1) 316 0 [] ls st h)) ∧
  (∀ (ls : zL) (st : zS) (h : zH), zx 243 316 ls st h = zca 243 316 319 ls 225 5 0 (ztake 4 st) h) ∧
  (∀ (ls : zL) (st : zS) (h : zH), zx 243 319 ls st h = zgo 243 (zpure (.istore 11) 321 0 [] ls st h)) ∧
  (∀ (ls : zL) (st : zS) (h : zH), zx 243 321 ls st h = zgo 243 (zpure (.goto 231) 324 552 [] ls st h)) ∧
  (∀ (ls : zL) (st : zS) (h : zH), zx 243 324 ls st h = zgo 243 (zpure (.iload 12) 326 0 [] ls st h)) ∧
  (∀ (ls : zL) (st : zS) (h : zH), zx 243 326 ls st h = zgo 243 (zpure (.bipush 14) 328 0 [] ls st h)) ∧
  (∀ (ls : zL) (st : zS) (h : zH), zx 243 328 ls st h = zgo 243 (zpure (.if_icmp .ge 26) 331 354 [] ls st h)) ∧
  (∀ (ls : zL) (st : zS) (h : zH), zx 243 331 ls st h = zgo 243 (zpure (.aload_n 1) 332 0 [] ls st h)) ∧
  (∀ (ls : zL) (st : zS) (h : zH), zx 243 332 ls st h = zgo 243 (zpure (.iload 5) 334 0 [] ls st h)) ∧
  (∀ (ls : zL) (st : zS) (h : zH), zx 243 334 ls st h = zgo 243 (zpure (.iload 7) 336 0 [] ls st h)) ∧
  (∀ (ls : zL) (st : zS) (h : zH), zx 243 336 ls st h = zgo 243 (zpure .irem 337 0 [] ls st h)) :=
  ⟨zx_0 rfl, zx_0 rfl, zx_0 rfl, zx_0 rfl, zx_0 rfl, zx_0 rfl, zx_0 rfl, zx_2c rfl, zx_0 rfl, zx_0 rfl, zx_0 rfl, zx_0 rfl, zx_0 rfl, zx_0 rfl, zx_0 rfl, zx_0 rfl, zx_0 rfl, zx_0 rfl, zx_0 rfl, zx_0 rfl, zx_0 rfl, zx_0 rfl, zx_2c rfl, zx_0 rfl, zx_0 rfl, zx_0 rfl, zx_0 rfl, zx_0 rfl, zx_0 rfl, zx_0 rfl, zx_0 rfl, zx_0 rfl, zx_0 rfl, zx_0 rfl, zx_2c rfl, zx_0 rfl, zx_0 rfl, zx_0 rfl, zx_0 rfl, zx_0 rfl, zx_0 rfl, zx_0 rfl, zx_0 rfl, zx_0 rfl, zx_0 rfl, zx_0 rfl, zx_0 rfl, zx_0 rfl, zx_0 rfl, zx_0 rfl, zx_2c rfl, zx_0 rfl, zx_0 rfl, zx_0 rfl, zx_0 rfl, zx_0 rfl, zx_0 rfl, zx_0 rfl, zx_0 rfl, zx_0 rfl⟩
set_option maxRecDepth 4000 in
theorem z243_b3 :
  (∀ (ls : zL) (st : zS) (h : zH), zx 243 337 ls st h = zgo 243 (zpure (.iload 5) 339 0 [] ls st h)) ∧
  (∀ (ls : zL) (st : zS) (h : zH), zx 243 339 ls st h = zgo 243 (zpure (.bipush 12) 341 0 [] ls st h)) ∧
  (∀ (ls : zL) (st : zS) (h : zH), zx 243 341 ls st h = zgo 243 (zpure .idiv 342 0 [] ls st h)) ∧
  (∀ (ls : zL) (st : zS) (h : zH), zx 243 342 ls st h = zgo 243 (zpure (.sipush 950) 345 0 [] ls st h)) ∧
  (∀ (ls : zL) (st : zS) (h : zH), zx 243 345 ls st h = zgo 243 (zpure .irem 346 0 [] ls st h)) ∧
  (∀ (ls : zL) (st : zS) (h : zH), zx 243 346 ls st h = zca 243 346 349 ls 226 4 0 (ztake 3 st) h) ∧
  (∀ (ls : zL) (st : zS) (h : zH), zx 243 349 ls st h = zgo 243 (zpure (.istore 11) 351 0 [] ls st h)) ∧
  (∀ (ls : zL) (st : zS) (h : zH), zx 243 351 ls st h = zgo 243 (zpure (.goto 201) 354 552 [] ls st h)) ∧
  (∀ (ls : zL) (st : zS) (h : zH), zx 243 354 ls st h = zgo 243 (zpure (.iload 12) 356 0 [] ls st h)) ∧
  (∀ (ls : zL) (st : zS) (h : zH), zx 243 356 ls st h = zgo 243 (zpure (.bipush 16) 358 0 [] ls st h)) ∧
  (∀ (ls : zL) (st : zS) (h : zH), zx 243 358 ls st h = zgo 243 (zpure (.if_icmp .ge 53) 361 411 [] ls st h)) ∧
  (∀ (ls : zL) (st : zS) (h : zH), zx 243 361 ls st h = zgo 243 (zpure (.aload_n 1) 362 0 [] ls st h)) ∧
  (∀ (ls : zL) (st : zS) (h : zH), zx 243 362 ls st h = zgo 243 (zpure (.iload 5) 364 0 [] ls st h)) ∧
  (∀ (ls : zL) (st : zS) (h : zH), zx 243 364 ls st h = zgo 243 (zpure (.iload 7) 366 0 [] ls st h)) ∧
  (∀ (ls : zL) (st : zS) (h : zH), zx 243 366 ls st h = zgo 243 (zpure .irem 367 0 [] ls st h)) ∧
  (∀ (ls : zL) (st : zS) (h : zH), zx 243 367 ls st h = zgo 243 (zpure (.iload 5) 369 0 [] ls st h)) ∧
  (∀ (ls : zL) (st : zS) (h : zH), zx 243 369 ls st h = zgo 243 (zpure (.bipush 12) 371 0 [] ls st h)) ∧
  (∀ (ls : zL) (st : zS) (h : zH), zx 243 371 ls st h = zgo 243 (zpure .idiv 372 0 [] ls st h)) ∧
  (∀ (ls : zL) (st : zS) (h : zH), zx 243 372 ls st h = zgo 243 (zpure (.iconst 2) 373 0 [] ls st h)) ∧
  (∀ (ls : zL) (st : zS) (h : zH), zx 243 373 ls st h = zgo 243 (zpure .irem 374 0 [] ls st h)) ∧
  (∀ (ls : zL) (st : zS) (h : zH), zx 243 374 ls st h = zgo 243 (zpure (.ifCond .ne 8) 377 382 [] ls st h)) ∧
  (∀ (ls : zL) (st : zS) (h : zH), zx 243 377 ls st h = zgo 243 (zpure (.bipush 115) 379 0 [] ls st h)) ∧
  (∀ (ls : zL) (st : zS) (h : zH), zx 243 379 ls st h = zgo 243 (zpure (.goto 5) 382 384 [] ls st h)) ∧
  (∀ (ls : zL) (st : zS) (h : zH), zx 243 382 ls st h = zgo 243 (zpure (.bipush 101) 384 0 [] ls st h)) ∧
  (∀ (ls : zL) (st : zS) (h : zH), zx 243 384 ls st h = zgo 243 (zpure (.iload 5) 386 0 [] ls st h)) ∧
  (∀ (ls : zL) (st : zS) (h : zH), zx 243 386 ls st h = zgo 243 (zpure (.bipush 24) 388 0 [] ls st h)) ∧
  (∀ (ls : zL) (st : zS) (h : zH), zx 243 388 ls st h = zgo 243 (zpure .idiv 389 0 [] ls st h)) ∧
  (∀ (ls : zL) (st : zS) (h : zH), zx 243 389 ls st h = zgo 243 (zpure (.sipush 905) 392 0 [] ls st h)) ∧
  (∀ (ls : zL) (st : zS) (h : zH), zx 243 392 ls st h = zgo 243 (zpure .irem 393 0 [] ls st h)) ∧
  (∀ (ls : zL) (st : zS) (h : zH), zx 243 393 ls st h = zgo 243 (zpure (.iload 5) 395 0 [] ls st h)) ∧
  (∀ (ls : zL) (st : zS) (h : zH), zx 243 395 ls st h = zgo 243 (zpure (.sipush 900) 398 0 [] ls st h)) ∧
  (∀ (ls : zL) (st : zS) (h : zH), zx 243 398 ls st h = zgo 243 (zpure .idiv 399 0 [] ls st h)) ∧
  (∀ (ls : zL) (st : zS) (h : zH), zx 243 399 ls st h = zgo 243 (zpure (.sipush 200) 402 0 [] ls st h)) ∧
  (∀ (ls : zL) (st : zS) (h : zH), zx 243 402 ls st h = zgo 243 (zpure .irem 403 0 [] ls st h)) ∧
  (∀ (ls : zL) (st : zS) (h : zH), zx 243 403 ls st h = zca 243 403 406 ls 227 6 0 (ztake 5 st) h) ∧
  (∀ (ls : zL) (st : zS) (h : zH), zx 243 406 ls st h = zgo 243 (zpure (.istore 11) 408 0 [] ls st h)) ∧
  (∀ (ls : zL) (st : zS) (h : zH), zx 243 408 ls st h = zgo 243 (zpure (.goto 144) 411 552 [] ls st h)) ∧
  (∀ (ls : zL) (st : zS) (h : zH), zx 243 411 ls st h = zgo 243 (zpure (.iload 12) 413 0 [] ls st h)) ∧
  (∀ (ls : zL) (st : zS) (h : zH), zx 243 413 ls st h = zgo 243 (zpure (.bipush 17) 415 0 [] ls st h)) ∧
  (∀ (ls : zL) (st : zS) (h : zH), zx 243 415 ls st h = zgo 243 (zpure (.if_icmp .ge 24) 418 439 [] ls st h)) ∧
  (∀ (ls : zL) (st : zS) (h : zH), zx 243 418 ls st h = zgo 243 (zpure (.aload_n 1) 419 0 [] ls st h)) ∧
  (∀ (ls : zL) (st : zS) (h : zH), zx 243 419 ls st h = zgo 243 (zpure (.iload 5) 421 0 [] ls st h)) ∧
  (∀ (ls : zL) (st : zS) (h : zH), zx 243 421 ls st h = zgo 243 (zpure (.iload 6) 423 0 [] ls st h)) ∧
  (∀ (ls : zL) (st : zS) (h : zH), zx 243 423 ls st h = zgo 243 (zpure .irem 424 0 [] ls st h)) ∧
  (∀ (ls : zL) (st : zS) (h : zH), zx 243 424 ls st h = zgo 243 (zpure (.iload 5) 426 0 [] ls st h)) ∧
  (∀ (ls : zL) (st : zS) (h : zH), zx 243 426 ls st h = zgo 243 (zpure (.bipush 12) 428 0 [] ls st h)) ∧
  (∀ (ls : zL) (st : zS) (h : zH), zx 243 428 ls st h = zgo 243 (zpure .idiv 429 0 [] ls st h)) ∧
  (∀ (ls : zL) (st : zS) (h : zH), zx 243 429 ls st h = zgo 243 (zpure (.iconst 4) 430 0 [] ls st h)) ∧
  (∀ (ls : zL) (st : zS) (h : zH), zx 243 430 ls st h = zgo 243 (zpure .irem 431 0 [] ls st h)) ∧
  (∀ (ls : zL) (st : zS) (h : zH), zx 243 431 ls st h = zca 243 431 434 ls 223 4 0 (ztake 3 st) h) ∧
  (∀ (ls : zL) (st : zS) (h : zH), zx 243 434 ls st h = zgo 243 (zpure (.istore 11) 436 0 [] ls st h)) ∧
  (∀ (ls : zL) (st : zS) (h : zH), zx 243 436 ls st h = zgo 243 (zpure (.goto 116) 439 552 [] ls st h)) ∧
  (∀ (ls : zL) (st : zS) (h : zH), zx 243 439 ls st h = zgo 243 (zpure (.iload 12) 441 0 [] ls st h)) ∧
  (∀ (ls : zL) (st : zS) (h : zH), zx 243 441 ls st h = zgo 243 (zpure (.bipush 18) 443 0 [] ls st h)) ∧
  (∀ (ls : zL) (st : zS) (h : zH), zx 243 443 ls st h = zgo 243 (zpure (.if_icmp .ge 81) 446 524 [] ls st h)) ∧
  (∀ (ls : zL) (st : zS) (h : zH), zx 243 446 ls st h = zgo 243 (zpure (.aload_n 1) 447 0 [] ls st h)) ∧
  (∀ (ls : zL) (st : zS) (h : zH), zx 243 447 ls st h = zca 243 447 450 ls 62 3 6 (ztake 1 st) h) ∧
  (∀ (ls : zL) (st : zS) (h : zH), zx 243 450 ls st h = zgo 243 (zpure (.istore 13) 452 0 [] ls st h)) ∧
  (∀ (ls : zL) (st : zS) (h : zH), zx 243 452 ls st h = zgo 243 (zpure (.aload_n 1) 453 0 [] ls st h)) ∧
  (∀ (ls : zL) (st : zS) (h : zH), zx 243 453 ls st h = zca 243 453 456 ls 56 1 6 (ztake 1 st) h) :=
  ⟨zx_0 rfl, zx_0 rfl, zx_0 rfl, zx_0 rfl, zx_0 rfl, zx_2c rfl, zx_0 rfl, zx_0 rfl, zx_0 rfl, zx_0 rfl, zx_0 rfl, zx_0 rfl, zx_0 rfl, zx_0 rfl, zx_0 rfl, zx_0 rfl, zx_0 rfl, zx_0 rfl, zx_0 rfl, zx_0 rfl, zx_0 rfl, zx_0 rfl, zx_0 rfl, zx_0 rfl, zx_0 rfl, zx_0 rfl, zx_0 rfl, zx_0 rfl, zx_0 rfl, zx_0 rfl, zx_0 rfl, zx_0 rfl, zx_0 rfl, zx_0 rfl, zx_2c rfl, zx_0 rfl, zx_0 rfl, zx_0 rfl, zx_0 rfl, zx_0 rfl, zx_0 rfl, zx_0 rfl, zx_0 rfl, zx_0 rfl, zx_0 rfl, zx_0 rfl, zx_0 rfl, zx_0 rfl, zx_0 rfl, zx_2c rfl, zx_0 rfl, zx_0 rfl, zx_0 rfl, zx_0 rfl, zx_0 rfl, zx_0 rfl, zx_2c rfl, zx_0 rfl, zx_0 rfl, zx_2c rfl⟩
set_option maxRecDepth 4000 in
theorem z243_b4 :
  (∀ (ls : zL) (st : zS) (h : zH), zx 243 456 ls st h = zgo 243 (zpure (.istore 14) 458 0 [] ls st h)) ∧
  (∀ (ls : zL) (st : zS) (h : zH), zx 243 458 ls st h = zgo 243 (zpure (.aload_n 1) 459 0 [] ls st h)) ∧
  (∀ (ls : zL) (st : zS) (h : zH), zx 243 459 ls st h = zca 243 459 462 ls 72 1 6 (ztake 1 st) h) ∧
  (∀ (ls : zL) (st : zS) (h : zH), zx 243 462 ls st h = zgo 243 (zpure (.istore 15) 464 0 [] ls st h)) ∧
  (∀ (ls : zL) (st : zS) (h : zH), zx 243 464 ls st h = zgo 243 (zpure (.aload_n 1) 465 0 [] ls st h)) ∧
  (∀ (ls : zL) (st : zS) (h : zH), zx 243 465 ls st h = zca 243 465 468 ls 236 2 0 (ztake 1 st) h) ∧
  (∀ (ls : zL) (st : zS) (h : zH), zx 243 468 ls st h = zgo 243 (zpure (.istore 11) 470 0 [] ls st h)) ∧
  (∀ (ls : zL) (st : zS) (h : zH), zx 243 470 ls st h = zgo 243 (zpure (.iload 11) 472 0 [] ls st h)) ∧
  (∀ (ls : zL) (st : zS) (h : zH), zx 243 472 ls st h = zgo 243 (zpure (.iload 14) 474 0 [] ls st h)) ∧
  (∀ (ls : zL) (st : zS) (h : zH), zx 243 474 ls st h = zgo 243 (zpure (.if_icmp .ne 45) 477 519 [] ls st h)) ∧
  (∀ (ls : zL) (st : zS) (h : zH), zx 243 477 ls st h = zgo 243 (zpure (.aload_n 1) 478 0 [] ls st h)) ∧
  (∀ (ls : zL) (st : zS) (h : zH), zx 243 478 ls st h = zca 243 478 481 ls 73 1 6 (ztake 1 st) h) ∧
  (∀ (ls : zL) (st : zS) (h : zH), zx 243 481 ls st h = zgo 243 (zpure (.iload 14) 483 0 [] ls st h)) ∧
  (∀ (ls : zL) (st : zS) (h : zH), zx 243 483 ls st h = zgo 243 (zpure (.if_icmp .ne 36) 486 519 [] ls st h)) ∧
  (∀ (ls : zL) (st : zS) (h : zH), zx 243 486 ls st h = zgo 243 (zpure (.aload_n 1) 487 0 [] ls st h)) ∧
  (∀ (ls : zL) (st : zS) (h : zH), zx 243 487 ls st h = zca 243 487 490 ls 72 1 6 (ztake 1 st) h) ∧
  (∀ (ls : zL) (st : zS) (h : zH), zx 243 490 ls st h = zgo 243 (zpure (.iload 15) 492 0 [] ls st h)) ∧
  (∀ (ls : zL) (st : zS) (h : zH), zx 243 492 ls st h = zgo 243 (zpure (.iconst 1) 493 0 [] ls st h)) ∧
  (∀ (ls : zL) (st : zS) (h : zH), zx 243 493 ls st h = zgo 243 (zpure .iadd 494 0 [] ls st h)) ∧
  (∀ (ls : zL) (st : zS) (h : zH), zx 243 494 ls st h = zgo 243 (zpure (.if_icmp .ne 25) 497 519 [] ls st h)) ∧
  (∀ (ls : zL) (st : zS) (h : zH), zx 243 497 ls st h = zgo 243 (zpure (.aload_n 1) 498 0 [] ls st h)) ∧
  (∀ (ls : zL) (st : zS) (h : zH), zx 243 498 ls st h = zca 243 498 501 ls 237 2 0 (ztake 1 st) h) ∧
  (∀ (ls : zL) (st : zS) (h : zH), zx 243 501 ls st h = zgo 243 (zpure (.ifCond .lt 18) 504 519 [] ls st h)) ∧
  (∀ (ls : zL) (st : zS) (h : zH), zx 243 504 ls st h = zgo 243 (zpure (.aload_n 1) 505 0 [] ls st h)) ∧
  (∀ (ls : zL) (st : zS) (h : zH), zx 243 505 ls st h = zca 243 505 508 ls 237 2 0 (ztake 1 st) h) ∧
  (∀ (ls : zL) (st : zS) (h : zH), zx 243 508 ls st h = zgo 243 (zpure (.sipush 3600) 511 0 [] ls st h)) ∧
  (∀ (ls : zL) (st : zS) (h : zH), zx 243 511 ls st h = zgo 243 (zpure (.if_icmp .gt 8) 514 519 [] ls st h)) ∧
  (∀ (ls : zL) (st : zS) (h : zH), zx 243 514 ls st h = zgo 243 (zpure (.iload 13) 516 0 [] ls st h)) ∧
  (∀ (ls : zL) (st : zS) (h : zH), zx 243 516 ls st h = zgo 243 (zpure (.ifCond .ge 5) 519 521 [] ls st h)) ∧
  (∀ (ls : zL) (st : zS) (h : zH), zx 243 519 ls st h = zgo 243 (zpure (.iconst 0) 520 0 [] ls st h)) ∧
  (∀ (ls : zL) (st : zS) (h : zH), zx 243 520 ls st h = zret 1 st h) ∧
  (∀ (ls : zL) (st : zS) (h : zH), zx 243 521 ls st h = zgo 243 (zpure (.goto 31) 524 552 [] ls st h)) ∧
  (∀ (ls : zL) (st : zS) (h : zH), zx 243 524 ls st h = zgo 243 (zpure (.aload_n 1) 525 0 [] ls st h)) ∧
  (∀ (ls : zL) (st : zS) (h : zH), zx 243 525 ls st h = zgo 243 (zpure (.bipush 15) 527 0 [] ls st h)) ∧
  (∀ (ls : zL) (st : zS) (h : zH), zx 243 527 ls st h = zgo 243 (zpure (.iconst 1) 528 0 [] ls st h)) ∧
  (∀ (ls : zL) (st : zS) (h : zH), zx 243 528 ls st h = zgo 243 (zpure (.iload 5) 530 0 [] ls st h)) ∧
  (∀ (ls : zL) (st : zS) (h : zH), zx 243 530 ls st h = zgo 243 (zpure (.bipush 90) 532 0 [] ls st h)) ∧
  (∀ (ls : zL) (st : zS) (h : zH), zx 243 532 ls st h = zgo 243 (zpure .irem 533 0 [] ls st h)) ∧
  (∀ (ls : zL) (st : zS) (h : zH), zx 243 533 ls st h = zgo 243 (zpure .iadd 534 0 [] ls st h)) ∧
  (∀ (ls : zL) (st : zS) (h : zH), zx 243 534 ls st h = zgo 243 (zpure .imul 535 0 [] ls st h)) ∧
  (∀ (ls : zL) (st : zS) (h : zH), zx 243 535 ls st h = zgo 243 (zpure (.iload 5) 537 0 [] ls st h)) ∧
  (∀ (ls : zL) (st : zS) (h : zH), zx 243 537 ls st h = zgo 243 (zpure (.bipush 90) 539 0 [] ls st h)) ∧
  (∀ (ls : zL) (st : zS) (h : zH), zx 243 539 ls st h = zgo 243 (zpure .idiv 540 0 [] ls st h)) ∧
  (∀ (ls : zL) (st : zS) (h : zH), zx 243 540 ls st h = zgo 243 (zpure (.bipush 60) 542 0 [] ls st h)) ∧
  (∀ (ls : zL) (st : zS) (h : zH), zx 243 542 ls st h = zgo 243 (zpure .irem 543 0 [] ls st h)) ∧
  (∀ (ls : zL) (st : zS) (h : zH), zx 243 543 ls st h = zgo 243 (zpure .ineg 544 0 [] ls st h)) ∧
  (∀ (ls : zL) (st : zS) (h : zH), zx 243 544 ls st h = zca 243 544 547 ls 242 7 0 (ztake 3 st) h) ∧
  (∀ (ls : zL) (st : zS) (h : zH), zx 243 547 ls st h = zgo 243 (zpure (.ifCond .ne 5) 550 552 [] ls st h)) ∧
  (∀ (ls : zL) (st : zS) (h : zH), zx 243 550 ls st h = zgo 243 (zpure (.iconst 0) 551 0 [] ls st h)) ∧
  (∀ (ls : zL) (st : zS) (h : zH), zx 243 551 ls st h = zret 1 st h) ∧
  (∀ (ls : zL) (st : zS) (h : zH), zx 243 552 ls st h = zgo 243 (zpure (.iload 11) 554 0 [] ls st h)) ∧
  (∀ (ls : zL) (st : zS) (h : zH), zx 243 554 ls st h = zgo 243 (zpure (.sipush (-1000)) 557 0 [] ls st h)) ∧
  (∀ (ls : zL) (st : zS) (h : zH), zx 243 557 ls st h = zgo 243 (zpure (.if_icmp .ge 18) 560 575 [] ls st h)) ∧
  (∀ (ls : zL) (st : zS) (h : zH), zx 243 560 ls st h = zgo 243 (zpure (.iload 8) 562 0 [] ls st h)) ∧
  (∀ (ls : zL) (st : zS) (h : zH), zx 243 562 ls st h = zgo 243 (zpure (.ifCond .eq 13) 565 575 [] ls st h)) ∧
  (∀ (ls : zL) (st : zS) (h : zH), zx 243 565 ls st h = zgo 243 (zpure (.aload_n 1) 566 0 [] ls st h)) ∧
  (∀ (ls : zL) (st : zS) (h : zH), zx 243 566 ls st h = zca 243 566 569 ls 240 4 0 (ztake 1 st) h) ∧
  (∀ (ls : zL) (st : zS) (h : zH), zx 243 569 ls st h = zgo 243 (zpure (.lload 9) 571 0 [] ls st h)) ∧
  (∀ (ls : zL) (st : zS) (h : zH), zx 243 571 ls st h = zgo 243 (zpure .lcmp 572 0 [] ls st h)) ∧
  (∀ (ls : zL) (st : zS) (h : zH), zx 243 572 ls st h = zgo 243 (zpure (.ifCond .ne 21) 575 593 [] ls st h)) :=
  ⟨zx_0 rfl, zx_0 rfl, zx_2c rfl, zx_0 rfl, zx_0 rfl, zx_2c rfl, zx_0 rfl, zx_0 rfl, zx_0 rfl, zx_0 rfl, zx_0 rfl, zx_2c rfl, zx_0 rfl, zx_0 rfl, zx_0 rfl, zx_2c rfl, zx_0 rfl, zx_0 rfl, zx_0 rfl, zx_0 rfl, zx_0 rfl, zx_2c rfl, zx_0 rfl, zx_0 rfl, zx_2c rfl, zx_0 rfl, zx_0 rfl, zx_0 rfl, zx_0 rfl, zx_0 rfl, zx_1 rfl, zx_0 rfl, zx_0 rfl, zx_0 rfl, zx_0 rfl, zx_0 rfl, zx_0 rfl, zx_0 rfl, zx_0 rfl, zx_0 rfl, zx_0 rfl, zx_0 rfl, zx_0 rfl, zx_0 rfl, zx_0 rfl, zx_0 rfl, zx_2c rfl, zx_0 rfl, zx_0 rfl, zx_1 rfl, zx_0 rfl, zx_0 rfl, zx_0 rfl, zx_0 rfl, zx_0 rfl, zx_0 rfl, zx_2c rfl, zx_0 rfl, zx_0 rfl, zx_0 rfl⟩
set_option maxRecDepth 4000 in
theorem z243_b5 :
  (∀ (ls : zL) (st : zS) (h : zH), zx 243 575 ls st h = zgo 243 (zpure (.iload_n 3) 576 0 [] ls st h)) ∧
  (∀ (ls : zL) (st : zS) (h : zH), zx 243 576 ls st h = zgo 243 (zpure (.bipush 10) 578 0 [] ls st h)) ∧
  (∀ (ls : zL) (st : zS) (h : zH), zx 243 578 ls st h = zgo 243 (zpure .irem 579 0 [] ls st h)) ∧
  (∀ (ls : zL) (st : zS) (h : zH), zx 243 579 ls st h = zgo 243 (zpure (.bipush 9) 581 0 [] ls st h)) ∧
  (∀ (ls : zL) (st : zS) (h : zH), zx 243 581 ls st h = zgo 243 (zpure (.if_icmp .ne 14) 584 595 [] ls st h)) ∧
  (∀ (ls : zL) (st : zS) (h : zH), zx 243 584 ls st h = zgo 243 (zpure (.aload_n 1) 585 0 [] ls st h)) ∧
  (∀ (ls : zL) (st : zS) (h : zH), zx 243 585 ls st h = zgo 243 (zpure (.iload 5) 587 0 [] ls st h)) ∧
  (∀ (ls : zL) (st : zS) (h : zH), zx 243 587 ls st h = zca 243 587 590 ls 241 11 0 (ztake 2 st) h) ∧
  (∀ (ls : zL) (st : zS) (h : zH), zx 243 590 ls st h = zgo 243 (zpure (.ifCond .ne 5) 593 595 [] ls st h)) ∧
  (∀ (ls : zL) (st : zS) (h : zH), zx 243 593 ls st h = zgo 243 (zpure (.iconst 0) 594 0 [] ls st h)) ∧
  (∀ (ls : zL) (st : zS) (h : zH), zx 243 594 ls st h = zret 1 st h) ∧
  (∀ (ls : zL) (st : zS) (h : zH), zx 243 595 ls st h = zgo 243 (zpure (.iinc 3 1) 598 0 [] ls st h)) ∧
  (∀ (ls : zL) (st : zS) (h : zH), zx 243 598 ls st h = zgo 243 (zpure (.goto (-577)) 601 21 [] ls st h)) ∧
  (∀ (ls : zL) (st : zS) (h : zH), zx 243 601 ls st h = zgo 243 (zpure (.aload_n 1) 602 0 [] ls st h)) ∧
  (∀ (ls : zL) (st : zS) (h : zH), zx 243 602 ls st h = zgo 243 (zpure (.iload_n 2) 603 0 [] ls st h)) ∧
  (∀ (ls : zL) (st : zS) (h : zH), zx 243 603 ls st h = zca 243 603 606 ls 241 11 0 (ztake 2 st) h) ∧
  (∀ (ls : zL) (st : zS) (h : zH), zx 243 606 ls st h = zgo 243 (zpure (.ifCond .ne 5) 609 611 [] ls st h)) ∧
  (∀ (ls : zL) (st : zS) (h : zH), zx 243 609 ls st h = zgo 243 (zpure (.iconst 0) 610 0 [] ls st h)) ∧
  (∀ (ls : zL) (st : zS) (h : zH), zx 243 610 ls st h = zret 1 st h) ∧
  (∀ (ls : zL) (st : zS) (h : zH), zx 243 611 ls st h = zgo 243 (zpure (.aload_n 1) 612 0 [] ls st h)) ∧
  (∀ (ls : zL) (st : zS) (h : zH), zx 243 612 ls st h = zca 243 612 615 ls 240 4 0 (ztake 1 st) h) ∧
  (∀ (ls : zL) (st : zS) (h : zH), zx 243 615 ls st h = zgo 243 (zpure (.lstore_n 3) 616 0 [] ls st h)) ∧
  (∀ (ls : zL) (st : zS) (h : zH), zx 243 616 ls st h = zgo 243 (zpure (.aload_n 1) 617 0 [] ls st h)) ∧
  (∀ (ls : zL) (st : zS) (h : zH), zx 243 617 ls st h = zca 243 617 620 ls 51 1 6 (ztake 1 st) h) ∧
  (∀ (ls : zL) (st : zS) (h : zH), zx 243 620 ls st h = zgo 243 (zpure (.istore 5) 622 0 [] ls st h)) ∧
  (∀ (ls : zL) (st : zS) (h : zH), zx 243 622 ls st h = zgo 243 (zpure (.aload_n 1) 623 0 [] ls st h)) ∧
  (∀ (ls : zL) (st : zS) (h : zH), zx 243 623 ls st h = zca 243 623 626 ls 239 2 0 (ztake 1 st) h) ∧
  (∀ (ls : zL) (st : zS) (h : zH), zx 243 626 ls st h = zgo 243 (zpure (.istore 6) 628 0 [] ls st h)) ∧
  (∀ (ls : zL) (st : zS) (h : zH), zx 243 628 ls st h = zgo 243 (zpure (.aload_n 1) 629 0 [] ls st h)) ∧
  (∀ (ls : zL) (st : zS) (h : zH), zx 243 629 ls st h = zgo 243 (zpure (.iconst 0) 630 0 [] ls st h)) ∧
  (∀ (ls : zL) (st : zS) (h : zH), zx 243 630 ls st h = zgo 243 (zpure (.iconst 0) 631 0 [] ls st h)) ∧
  (∀ (ls : zL) (st : zS) (h : zH), zx 243 631 ls st h = zgo 243 (zpure (.iconst 0) 632 0 [] ls st h)) ∧
  (∀ (ls : zL) (st : zS) (h : zH), zx 243 632 ls st h = zgo 243 (zpure (.iconst 0) 633 0 [] ls st h)) ∧
  (∀ (ls : zL) (st : zS) (h : zH), zx 243 633 ls st h = zgo 243 (zpure (.iconst 0) 634 0 [] ls st h)) ∧
  (∀ (ls : zL) (st : zS) (h : zH), zx 243 634 ls st h = zca 243 634 637 ls 222 7 0 (ztake 6 st) h) ∧
  (∀ (ls : zL) (st : zS) (h : zH), zx 243 637 ls st h = zgo 243 (zpure (.sipush (-1001)) 640 0 [] ls st h)) ∧
  (∀ (ls : zL) (st : zS) (h : zH), zx 243 640 ls st h = zgo 243 (zpure (.if_icmp .ne 215) 643 855 [] ls st h)) ∧
  (∀ (ls : zL) (st : zS) (h : zH), zx 243 643 ls st h = zgo 243 (zpure (.aload_n 1) 644 0 [] ls st h)) ∧
  (∀ (ls : zL) (st : zS) (h : zH), zx 243 644 ls st h = zgo 243 (zpure (.sipush 901) 647 0 [] ls st h)) ∧
  (∀ (ls : zL) (st : zS) (h : zH), zx 243 647 ls st h = zgo 243 (zpure (.iconst 0) 648 0 [] ls st h)) ∧
  (∀ (ls : zL) (st : zS) (h : zH), zx 243 648 ls st h = zgo 243 (zpure (.iconst 0) 649 0 [] ls st h)) ∧
  (∀ (ls : zL) (st : zS) (h : zH), zx 243 649 ls st h = zgo 243 (zpure (.iconst 0) 650 0 [] ls st h)) ∧
  (∀ (ls : zL) (st : zS) (h : zH), zx 243 650 ls st h = zgo 243 (zpure (.iconst 0) 651 0 [] ls st h)) ∧
  (∀ (ls : zL) (st : zS) (h : zH), zx 243 651 ls st h = zca 243 651 654 ls 222 7 0 (ztake 6 st) h) ∧
  (∀ (ls : zL) (st : zS) (h : zH), zx 243 654 ls st h = zgo 243 (zpure (.sipush (-1001)) 657 0 [] ls st h)) ∧
  (∀ (ls : zL) (st : zS) (h : zH), zx 243 657 ls st h = zgo 243 (zpure (.if_icmp .ne 198) 660 855 [] ls st h)) ∧
  (∀ (ls : zL) (st : zS) (h : zH), zx 243 660 ls st h = zgo 243 (zpure (.aload_n 1) 661 0 [] ls st h)) ∧
  (∀ (ls : zL) (st : zS) (h : zH), zx 243 661 ls st h = zgo 243 (zpure (.iconst 1) 662 0 [] ls st h)) ∧
  (∀ (ls : zL) (st : zS) (h : zH), zx 243 662 ls st h = zgo 243 (zpure (.iconst 1) 663 0 [] ls st h)) ∧
  (∀ (ls : zL) (st : zS) (h : zH), zx 243 663 ls st h = zgo 243 (zpure (.iconst (-1)) 664 0 [] ls st h)) ∧
  (∀ (ls : zL) (st : zS) (h : zH), zx 243 664 ls st h = zgo 243 (zpure (.iconst 0) 665 0 [] ls st h)) ∧
  (∀ (ls : zL) (st : zS) (h : zH), zx 243 665 ls st h = zgo 243 (zpure (.iconst 0) 666 0 [] ls st h)) ∧
  (∀ (ls : zL) (st : zS) (h : zH), zx 243 666 ls st h = zca 243 666 669 ls 222 7 0 (ztake 6 st) h) ∧
  (∀ (ls : zL) (st : zS) (h : zH), zx 243 669 ls st h = zgo 243 (zpure (.sipush (-1001)) 672 0 [] ls st h)) ∧
  (∀ (ls : zL) (st : zS) (h : zH), zx 243 672 ls st h = zgo 243 (zpure (.if_icmp .ne 183) 675 855 [] ls st h)) ∧
  (∀ (ls : zL) (st : zS) (h : zH), zx 243 675 ls st h = zgo 243 (zpure (.aload_n 1) 676 0 [] ls st h)) ∧
  (∀ (ls : zL) (st : zS) (h : zH), zx 243 676 ls st h = zgo 243 (zpure (.iconst 1) 677 0 [] ls st h)) ∧
  (∀ (ls : zL) (st : zS) (h : zH), zx 243 677 ls st h = zgo 243 (zpure (.bipush (-61)) 679 0 [] ls st h)) ∧
  (∀ (ls : zL) (st : zS) (h : zH), zx 243 679 ls st h = zgo 243 (zpure (.iconst (-1)) 680 0 [] ls st h)) ∧
  (∀ (ls : zL) (st : zS) (h : zH), zx 243 680 ls st h = zgo 243 (zpure (.iconst 0) 681 0 [] ls st h)) :=
  ⟨zx_0 rfl, zx_0 rfl, zx_0 rfl, zx_0 rfl, zx_0 rfl, zx_0 rfl, zx_0 rfl, zx_2c rfl, zx_0 rfl, zx_0 rfl, zx_1 rfl, zx_0 rfl, zx_0 rfl, zx_0 rfl, zx_0 rfl, zx_2c rfl, zx_0 rfl, zx_0 rfl, zx_1 rfl, zx_0 rfl, zx_2c rfl, zx_0 rfl, zx_0 rfl, zx_2c rfl, zx_0 rfl, zx_0 rfl, zx_2c rfl, zx_0 rfl, zx_0 rfl, zx_0 rfl, zx_0 rfl, zx_0 rfl, zx_0 rfl, zx_0 rfl, zx_2c rfl, zx_0 rfl, zx_0 rfl, zx_0 rfl, zx_0 rfl, zx_0 rfl, zx_0 rfl, zx_0 rfl, zx_0 rfl, zx_2c rfl, zx_0 rfl, zx_0 rfl, zx_0 rfl, zx_0 rfl, zx_0 rfl, zx_0 rfl, zx_0 rfl, zx_0 rfl, zx_2c rfl, zx_0 rfl, zx_0 rfl, zx_0 rfl, zx_0 rfl, zx_0 rfl, zx_0 rfl, zx_0 rfl⟩
set_option maxRecDepth 4000 in
theorem z243_b6 :
  (∀ (ls : zL) (st : zS) (h : zH), zx 243 681 ls st h = zgo 243 (zpure (.iconst 0) 682 0 [] ls st h)) ∧
  (∀ (ls : zL) (st : zS) (h : zH), zx 243 682 ls st h = zca 243 682 685 ls 222 7 0 (ztake 6 st) h) ∧
  (∀ (ls : zL) (st : zS) (h : zH), zx 243 685 ls st h = zgo 243 (zpure (.sipush (-1001)) 688 0 [] ls st h)) ∧
  (∀ (ls : zL) (st : zS) (h : zH), zx 243 688 ls st h = zgo 243 (zpure (.if_icmp .ne 167) 691 855 [] ls st h)) ∧
  (∀ (ls : zL) (st : zS) (h : zH), zx 243 691 ls st h = zgo 243 (zpure (.aload_n 1) 692 0 [] ls st h)) ∧
  (∀ (ls : zL) (st : zS) (h : zH), zx 243 692 ls st h = zgo 243 (zpure (.iconst 1) 693 0 [] ls st h)) ∧
  (∀ (ls : zL) (st : zS) (h : zH), zx 243 693 ls st h = zgo 243 (zpure (.iconst 0) 694 0 [] ls st h)) ∧
  (∀ (ls : zL) (st : zS) (h : zH), zx 243 694 ls st h = zgo 243 (zpure (.bipush 100) 696 0 [] ls st h)) ∧
  (∀ (ls : zL) (st : zS) (h : zH), zx 243 696 ls st h = zgo 243 (zpure (.iconst 0) 697 0 [] ls st h)) ∧
  (∀ (ls : zL) (st : zS) (h : zH), zx 243 697 ls st h = zgo 243 (zpure (.iconst 0) 698 0 [] ls st h)) ∧
  (∀ (ls : zL) (st : zS) (h : zH), zx 243 698 ls st h = zca 243 698 701 ls 222 7 0 (ztake 6 st) h) ∧
  (∀ (ls : zL) (st : zS) (h : zH), zx 243 701 ls st h = zgo 243 (zpure (.sipush (-1001)) 704 0 [] ls st h)) ∧
  (∀ (ls : zL) (st : zS) (h : zH), zx 243 704 ls st h = zgo 243 (zpure (.if_icmp .ne 151) 707 855 [] ls st h)) ∧
  (∀ (ls : zL) (st : zS) (h : zH), zx 243 707 ls st h = zgo 243 (zpure (.aload_n 1) 708 0 [] ls st h)) ∧
  (∀ (ls : zL) (st : zS) (h : zH), zx 243 708 ls st h = zgo 243 (zpure (.iconst 1) 709 0 [] ls st h)) ∧
  (∀ (ls : zL) (st : zS) (h : zH), zx 243 709 ls st h = zgo 243 (zpure (.iconst 0) 710 0 [] ls st h)) ∧
  (∀ (ls : zL) (st : zS) (h : zH), zx 243 710 ls st h = zgo 243 (zpure (.iconst 0) 711 0 [] ls st h)) ∧
  (∀ (ls : zL) (st : zS) (h : zH), zx 243 711 ls st h = zgo 243 (zpure (.iconst 5) 712 0 [] ls st h)) ∧
  (∀ (ls : zL) (st : zS) (h : zH), zx 243 712 ls st h = zgo 243 (zpure (.iconst 4) 713 0 [] ls st h)) ∧
  (∀ (ls : zL) (st : zS) (h : zH), zx 243 713 ls st h = zca 243 713 716 ls 222 7 0 (ztake 6 st) h) ∧
  (∀ (ls : zL) (st : zS) (h : zH), zx 243 716 ls st h = zgo 243 (zpure (.sipush (-1001)) 719 0 [] ls st h)) ∧
  (∀ (ls : zL) (st : zS) (h : zH), zx 243 719 ls st h = zgo 243 (zpure (.if_icmp .ne 136) 722 855 [] ls st h)) ∧
  (∀ (ls : zL) (st : zS) (h : zH), zx 243 722 ls st h = zgo 243 (zpure (.aload_n 1) 723 0 [] ls st h)) ∧
  (∀ (ls : zL) (st : zS) (h : zH), zx 243 723 ls st h = zgo 243 (zpure (.iconst 1) 724 0 [] ls st h)) ∧
  (∀ (ls : zL) (st : zS) (h : zH), zx 243 724 ls st h = zgo 243 (zpure (.iconst 0) 725 0 [] ls st h)) ∧
  (∀ (ls : zL) (st : zS) (h : zH), zx 243 725 ls st h = zgo 243 (zpure (.iconst (-1)) 726 0 [] ls st h)) ∧
  (∀ (ls : zL) (st : zS) (h : zH), zx 243 726 ls st h = zgo 243 (zpure (.iconst 0) 727 0 [] ls st h)) ∧
  (∀ (ls : zL) (st : zS) (h : zH), zx 243 727 ls st h = zgo 243 (zpure (.sipush 1000) 730 0 [] ls st h)) ∧
  (∀ (ls : zL) (st : zS) (h : zH), zx 243 730 ls st h = zca 243 730 733 ls 222 7 0 (ztake 6 st) h) ∧
  (∀ (ls : zL) (st : zS) (h : zH), zx 243 733 ls st h = zgo 243 (zpure (.sipush (-1001)) 736 0 [] ls st h)) ∧
  (∀ (ls : zL) (st : zS) (h : zH), zx 243 736 ls st h = zgo 243 (zpure (.if_icmp .ne 119) 739 855 [] ls st h)) ∧
  (∀ (ls : zL) (st : zS) (h : zH), zx 243 739 ls st h = zgo 243 (zpure (.aload_n 1) 740 0 [] ls st h)) ∧
  (∀ (ls : zL) (st : zS) (h : zH), zx 243 740 ls st h = zgo 243 (zpure (.iload 6) 742 0 [] ls st h)) ∧
  (∀ (ls : zL) (st : zS) (h : zH), zx 243 742 ls st h = zgo 243 (zpure (.iconst 0) 743 0 [] ls st h)) ∧
  (∀ (ls : zL) (st : zS) (h : zH), zx 243 743 ls st h = zca 243 743 746 ls 223 4 0 (ztake 3 st) h) ∧
  (∀ (ls : zL) (st : zS) (h : zH), zx 243 746 ls st h = zgo 243 (zpure (.sipush (-1001)) 749 0 [] ls st h)) ∧
  (∀ (ls : zL) (st : zS) (h : zH), zx 243 749 ls st h = zgo 243 (zpure (.if_icmp .ne 106) 752 855 [] ls st h)) ∧
  (∀ (ls : zL) (st : zS) (h : zH), zx 243 752 ls st h = zgo 243 (zpure (.aload_n 1) 753 0 [] ls st h)) ∧
  (∀ (ls : zL) (st : zS) (h : zH), zx 243 753 ls st h = zgo 243 (zpure (.iconst (-1)) 754 0 [] ls st h)) ∧
  (∀ (ls : zL) (st : zS) (h : zH), zx 243 754 ls st h = zgo 243 (zpure (.bipush (-99)) 756 0 [] ls st h)) ∧
  (∀ (ls : zL) (st : zS) (h : zH), zx 243 756 ls st h = zca 243 756 759 ls 223 4 0 (ztake 3 st) h) ∧
  (∀ (ls : zL) (st : zS) (h : zH), zx 243 759 ls st h = zgo 243 (zpure (.sipush (-1001)) 762 0 [] ls st h)) ∧
  (∀ (ls : zL) (st : zS) (h : zH), zx 243 762 ls st h = zgo 243 (zpure (.if_icmp .ne 93) 765 855 [] ls st h)) ∧
  (∀ (ls : zL) (st : zS) (h : zH), zx 243 765 ls st h = zgo 243 (zpure (.aload_n 1) 766 0 [] ls st h)) ∧
  (∀ (ls : zL) (st : zS) (h : zH), zx 243 766 ls st h = zgo 243 (zpure (.iconst 0) 767 0 [] ls st h)) ∧
  (∀ (ls : zL) (st : zS) (h : zH), zx 243 767 ls st h = zgo 243 (zpure (.iload 6) 769 0 [] ls st h)) ∧
  (∀ (ls : zL) (st : zS) (h : zH), zx 243 769 ls st h = zgo 243 (zpure (.bipush 120) 771 0 [] ls st h)) ∧
  (∀ (ls : zL) (st : zS) (h : zH), zx 243 771 ls st h = zgo 243 (zpure (.iconst (-1)) 772 0 [] ls st h)) ∧
  (∀ (ls : zL) (st : zS) (h : zH), zx 243 772 ls st h = zca 243 772 775 ls 224 6 0 (ztake 5 st) h) ∧
  (∀ (ls : zL) (st : zS) (h : zH), zx 243 775 ls st h = zgo 243 (zpure (.sipush (-1001)) 778 0 [] ls st h)) ∧
  (∀ (ls : zL) (st : zS) (h : zH), zx 243 778 ls st h = zgo 243 (zpure (.if_icmp .ne 77) 781 855 [] ls st h)) ∧
  (∀ (ls : zL) (st : zS) (h : zH), zx 243 781 ls st h = zgo 243 (zpure (.aload_n 1) 782 0 [] ls st h)) ∧
  (∀ (ls : zL) (st : zS) (h : zH), zx 243 782 ls st h = zgo 243 (zpure (.iload 5) 784 0 [] ls st h)) ∧
  (∀ (ls : zL) (st : zS) (h : zH), zx 243 784 ls st h = zgo 243 (zpure (.iconst 1) 785 0 [] ls st h)) ∧
  (∀ (ls : zL) (st : zS) (h : zH), zx 243 785 ls st h = zgo 243 (zpure .iadd 786 0 [] ls st h)) ∧
  (∀ (ls : zL) (st : zS) (h : zH), zx 243 786 ls st h = zgo 243 (zpure (.iconst 0) 787 0 [] ls st h)) ∧
  (∀ (ls : zL) (st : zS) (h : zH), zx 243 787 ls st h = zgo 243 (zpure (.bipush 102) 789 0 [] ls st h)) ∧
  (∀ (ls : zL) (st : zS) (h : zH), zx 243 789 ls st h = zgo 243 (zpure (.iconst 0) 790 0 [] ls st h)) ∧
  (∀ (ls : zL) (st : zS) (h : zH), zx 243 790 ls st h = zca 243 790 793 ls 224 6 0 (ztake 5 st) h) ∧
  (∀ (ls : zL) (st : zS) (h : zH), zx 243 793 ls st h = zgo 243 (zpure (.sipush (-1001)) 796 0 [] ls st h)) :=
  ⟨zx_0 rfl, zx_2c rfl, zx_0 rfl, zx_0 rfl, zx_0 rfl, zx_0 rfl, zx_0 rfl, zx_0 rfl, zx_0 rfl, zx_0 rfl, zx_2c rfl, zx_0 rfl, zx_0 rfl, zx_0 rfl, zx_0 rfl, zx_0 rfl, zx_0 rfl, zx_0 rfl, zx_0 rfl, zx_2c rfl, zx_0 rfl, zx_0 rfl, zx_0 rfl, zx_0 rfl, zx_0 rfl, zx_0 rfl, zx_0 rfl, zx_0 rfl, zx_2c rfl, zx_0 rfl, zx_0 rfl, zx_0 rfl, zx_0 rfl, zx_0 rfl, zx_2c rfl, zx_0 rfl, zx_0 rfl, zx_0 rfl, zx_0 rfl, zx_0 rfl, zx_2c rfl, zx_0 rfl, zx_0 rfl, zx_0 rfl, zx_0 rfl, zx_0 rfl, zx_0 rfl, zx_0 rfl, zx_2c rfl, zx_0 rfl, zx_0 rfl, zx_0 rfl, zx_0 rfl, zx_0 rfl, zx_0 rfl, zx_0 rfl, zx_0 rfl, zx_0 rfl, zx_2c rfl, zx_0 rfl⟩
set_option maxRecDepth 4000 in
theorem z243_b7 :
  (∀ (ls : zL) (st : zS) (h : zH), zx 243 796 ls st h = zgo 243 (zpure (.if_icmp .ne 59) 799 855 [] ls st h)) ∧
  (∀ (ls : zL) (st : zS) (h : zH), zx 243 799 ls st h = zgo 243 (zpure (.aload_n 1) 800 0 [] ls st h)) ∧
  (∀ (ls : zL) (st : zS) (h : zH), zx 243 800 ls st h = zgo 243 (zpure (.iconst (-1)) 801 0 [] ls st h)) ∧
  (∀ (ls : zL) (st : zS) (h : zH), zx 243 801 ls st h = zgo 243 (zpure (.iconst 0) 802 0 [] ls st h)) ∧
  (∀ (ls : zL) (st : zS) (h : zH), zx 243 802 ls st h = zgo 243 (zpure (.bipush 102) 804 0 [] ls st h)) ∧
  (∀ (ls : zL) (st : zS) (h : zH), zx 243 804 ls st h = zgo 243 (zpure (.iconst 0) 805 0 [] ls st h)) ∧
  (∀ (ls : zL) (st : zS) (h : zH), zx 243 805 ls st h = zca 243 805 808 ls 224 6 0 (ztake 5 st) h) ∧
  (∀ (ls : zL) (st : zS) (h : zH), zx 243 808 ls st h = zgo 243 (zpure (.sipush (-1001)) 811 0 [] ls st h)) ∧
  (∀ (ls : zL) (st : zS) (h : zH), zx 243 811 ls st h = zgo 243 (zpure (.if_icmp .ne 44) 814 855 [] ls st h)) ∧
  (∀ (ls : zL) (st : zS) (h : zH), zx 243 814 ls st h = zgo 243 (zpure (.aload_n 1) 815 0 [] ls st h)) ∧
  (∀ (ls : zL) (st : zS) (h : zH), zx 243 815 ls st h = zgo 243 (zpure (.iload 5) 817 0 [] ls st h)) ∧
  (∀ (ls : zL) (st : zS) (h : zH), zx 243 817 ls st h = zgo 243 (zpure (.iconst 0) 818 0 [] ls st h)) ∧
  (∀ (ls : zL) (st : zS) (h : zH), zx 243 818 ls st h = zgo 243 (zpure (.iconst 0) 819 0 [] ls st h)) ∧
  (∀ (ls : zL) (st : zS) (h : zH), zx 243 819 ls st h = zca 243 819 822 ls 225 5 0 (ztake 4 st) h) ∧
  (∀ (ls : zL) (st : zS) (h : zH), zx 243 822 ls st h = zgo 243 (zpure (.sipush (-1001)) 825 0 [] ls st h)) ∧
  (∀ (ls : zL) (st : zS) (h : zH), zx 243 825 ls st h = zgo 243 (zpure (.if_icmp .ne 30) 828 855 [] ls st h)) ∧
  (∀ (ls : zL) (st : zS) (h : zH), zx 243 828 ls st h = zgo 243 (zpure (.aload_n 1) 829 0 [] ls st h)) ∧
  (∀ (ls : zL) (st : zS) (h : zH), zx 243 829 ls st h = zgo 243 (zpure (.iconst (-1)) 830 0 [] ls st h)) ∧
  (∀ (ls : zL) (st : zS) (h : zH), zx 243 830 ls st h = zgo 243 (zpure (.iconst 0) 831 0 [] ls st h)) ∧
  (∀ (ls : zL) (st : zS) (h : zH), zx 243 831 ls st h = zgo 243 (zpure (.iconst 1) 832 0 [] ls st h)) ∧
  (∀ (ls : zL) (st : zS) (h : zH), zx 243 832 ls st h = zca 243 832 835 ls 225 5 0 (ztake 4 st) h) ∧
  (∀ (ls : zL) (st : zS) (h : zH), zx 243 835 ls st h = zgo 243 (zpure (.sipush (-1001)) 838 0 [] ls st h)) ∧
  (∀ (ls : zL) (st : zS) (h : zH), zx 243 838 ls st h = zgo 243 (zpure (.if_icmp .ne 17) 841 855 [] ls st h)) ∧
  (∀ (ls : zL) (st : zS) (h : zH), zx 243 841 ls st h = zgo 243 (zpure (.aload_n 1) 842 0 [] ls st h)) ∧
  (∀ (ls : zL) (st : zS) (h : zH), zx 243 842 ls st h = zgo 243 (zpure (.iconst 0) 843 0 [] ls st h)) ∧
  (∀ (ls : zL) (st : zS) (h : zH), zx 243 843 ls st h = zgo 243 (zpure (.iload 5) 845 0 [] ls st h)) ∧
  (∀ (ls : zL) (st : zS) (h : zH), zx 243 845 ls st h = zgo 243 (zpure (.iconst 1) 846 0 [] ls st h)) ∧
  (∀ (ls : zL) (st : zS) (h : zH), zx 243 846 ls st h = zca 243 846 849 ls 225 5 0 (ztake 4 st) h) ∧
  (∀ (ls : zL) (st : zS) (h : zH), zx 243 849 ls st h = zgo 243 (zpure (.sipush (-1001)) 852 0 [] ls st h)) ∧
  (∀ (ls : zL) (st : zS) (h : zH), zx 243 852 ls st h = zgo 243 (zpure (.if_icmp .eq 5) 855 857 [] ls st h)) ∧
  (∀ (ls : zL) (st : zS) (h : zH), zx 243 855 ls st h = zgo 243 (zpure (.iconst 0) 856 0 [] ls st h)) ∧
  (∀ (ls : zL) (st : zS) (h : zH), zx 243 856 ls st h = zret 1 st h) ∧
  (∀ (ls : zL) (st : zS) (h : zH), zx 243 857 ls st h = zgo 243 (zpure (.aload_n 1) 858 0 [] ls st h)) ∧
  (∀ (ls : zL) (st : zS) (h : zH), zx 243 858 ls st h = zgo 243 (zpure (.iload 5) 860 0 [] ls st h)) ∧
  (∀ (ls : zL) (st : zS) (h : zH), zx 243 860 ls st h = zgo 243 (zpure (.sipush 901) 863 0 [] ls st h)) ∧
  (∀ (ls : zL) (st : zS) (h : zH), zx 243 863 ls st h = zca 243 863 866 ls 226 4 0 (ztake 3 st) h) ∧
  (∀ (ls : zL) (st : zS) (h : zH), zx 243 866 ls st h = zgo 243 (zpure (.sipush (-1001)) 869 0 [] ls st h)) ∧
  (∀ (ls : zL) (st : zS) (h : zH), zx 243 869 ls st h = zgo 243 (zpure (.if_icmp .ne 199) 872 1068 [] ls st h)) ∧
  (∀ (ls : zL) (st : zS) (h : zH), zx 243 872 ls st h = zgo 243 (zpure (.iload 5) 874 0 [] ls st h)) ∧
  (∀ (ls : zL) (st : zS) (h : zH), zx 243 874 ls st h = zgo 243 (zpure (.ifCond .le 17) 877 891 [] ls st h)) ∧
  (∀ (ls : zL) (st : zS) (h : zH), zx 243 877 ls st h = zgo 243 (zpure (.aload_n 1) 878 0 [] ls st h)) ∧
  (∀ (ls : zL) (st : zS) (h : zH), zx 243 878 ls st h = zgo 243 (zpure (.iconst 0) 879 0 [] ls st h)) ∧
  (∀ (ls : zL) (st : zS) (h : zH), zx 243 879 ls st h = zgo 243 (zpure (.sipush 901) 882 0 [] ls st h)) ∧
  (∀ (ls : zL) (st : zS) (h : zH), zx 243 882 ls st h = zca 243 882 885 ls 226 4 0 (ztake 3 st) h) ∧
  (∀ (ls : zL) (st : zS) (h : zH), zx 243 885 ls st h = zgo 243 (zpure (.sipush (-1002)) 888 0 [] ls st h)) ∧
  (∀ (ls : zL) (st : zS) (h : zH), zx 243 888 ls st h = zgo 243 (zpure (.if_icmp .ne 180) 891 1068 [] ls st h)) ∧
  (∀ (ls : zL) (st : zS) (h : zH), zx 243 891 ls st h = zgo 243 (zpure (.aload_n 1) 892 0 [] ls st h)) ∧
  (∀ (ls : zL) (st : zS) (h : zH), zx 243 892 ls st h = zgo 243 (zpure (.iload 5) 894 0 [] ls st h)) ∧
  (∀ (ls : zL) (st : zS) (h : zH), zx 243 894 ls st h = zgo 243 (zpure (.bipush 120) 896 0 [] ls st h)) ∧
  (∀ (ls : zL) (st : zS) (h : zH), zx 243 896 ls st h = zgo 243 (zpure (.iconst 0) 897 0 [] ls st h)) ∧
  (∀ (ls : zL) (st : zS) (h : zH), zx 243 897 ls st h = zgo 243 (zpure (.iconst 0) 898 0 [] ls st h)) ∧
  (∀ (ls : zL) (st : zS) (h : zH), zx 243 898 ls st h = zca 243 898 901 ls 227 6 0 (ztake 5 st) h) ∧
  (∀ (ls : zL) (st : zS) (h : zH), zx 243 901 ls st h = zgo 243 (zpure (.sipush (-1001)) 904 0 [] ls st h)) ∧
  (∀ (ls : zL) (st : zS) (h : zH), zx 243 904 ls st h = zgo 243 (zpure (.if_icmp .ne 164) 907 1068 [] ls st h)) ∧
  (∀ (ls : zL) (st : zS) (h : zH), zx 243 907 ls st h = zgo 243 (zpure (.iload 5) 909 0 [] ls st h)) ∧
  (∀ (ls : zL) (st : zS) (h : zH), zx 243 909 ls st h = zgo 243 (zpure (.ifCond .le 18) 912 927 [] ls st h)) ∧
  (∀ (ls : zL) (st : zS) (h : zH), zx 243 912 ls st h = zgo 243 (zpure (.aload_n 1) 913 0 [] ls st h)) ∧
  (∀ (ls : zL) (st : zS) (h : zH), zx 243 913 ls st h = zgo 243 (zpure (.iconst 0) 914 0 [] ls st h)) ∧
  (∀ (ls : zL) (st : zS) (h : zH), zx 243 914 ls st h = zgo 243 (zpure (.bipush 120) 916 0 [] ls st h)) ∧
  (∀ (ls : zL) (st : zS) (h : zH), zx 243 916 ls st h = zgo 243 (zpure (.iconst 0) 917 0 [] ls st h)) :=
  ⟨zx_0 rfl, zx_0 rfl, zx_0 rfl, zx_0 rfl, zx_0 rfl, zx_0 rfl, zx_2c rfl, zx_0 rfl, zx_0 rfl, zx_0 rfl, zx_0 rfl, zx_0 rfl, zx_0 rfl, zx_2c rfl, zx_0 rfl, zx_0 rfl, zx_0 rfl, zx_0 rfl, zx_0 rfl, zx_0 rfl, zx_2c rfl, zx_0 rfl, zx_0 rfl, zx_0 rfl, zx_0 rfl, zx_0 rfl, zx_0 rfl, zx_2c rfl, zx_0 rfl, zx_0 rfl, zx_0 rfl, zx_1 rfl, zx_0 rfl, zx_0 rfl, zx_0 rfl, zx_2c rfl, zx_0 rfl, zx_0 rfl, zx_0 rfl, zx_0 rfl, zx_0 rfl, zx_0 rfl, zx_0 rfl, zx_2c rfl, zx_0 rfl, zx_0 rfl, zx_0 rfl, zx_0 rfl, zx_0 rfl, zx_0 rfl, zx_0 rfl, zx_2c rfl, zx_0 rfl, zx_0 rfl, zx_0 rfl, zx_0 rfl, zx_0 rfl, zx_0 rfl, zx_0 rfl, zx_0 rfl⟩
set_option maxRecDepth 4000 in
theorem z243_b8 :
  (∀ (ls : zL) (st : zS) (h : zH), zx 243 917 ls st h = zgo 243 (zpure (.iconst 1) 918 0 [] ls st h)) ∧
  (∀ (ls : zL) (st : zS) (h : zH), zx 243 918 ls st h = zca 243 918 921 ls 227 6 0 (ztake 5 st) h) ∧
  (∀ (ls : zL) (st : zS) (h : zH), zx 243 921 ls st h = zgo 243 (zpure (.sipush (-1002)) 924 0 [] ls st h)) ∧
  (∀ (ls : zL) (st : zS) (h : zH), zx 243 924 ls st h = zgo 243 (zpure (.if_icmp .ne 144) 927 1068 [] ls st h)) ∧
  (∀ (ls : zL) (st : zS) (h : zH), zx 243 927 ls st h = zgo 243 (zpure (.aload_n 1) 928 0 [] ls st h)) ∧
  (∀ (ls : zL) (st : zS) (h : zH), zx 243 928 ls st h = zgo 243 (zpure (.iconst (-1)) 929 0 [] ls st h)) ∧
  (∀ (ls : zL) (st : zS) (h : zH), zx 243 929 ls st h = zca 243 929 932 ls 228 3 0 (ztake 2 st) h) ∧
  (∀ (ls : zL) (st : zS) (h : zH), zx 243 932 ls st h = zgo 243 (zpure (.bipush 45) 934 0 [] ls st h)) ∧
  (∀ (ls : zL) (st : zS) (h : zH), zx 243 934 ls st h = zgo 243 (zpure (.if_icmp .ne 134) 937 1068 [] ls st h)) ∧
  (∀ (ls : zL) (st : zS) (h : zH), zx 243 937 ls st h = zgo 243 (zpure (.aload_n 1) 938 0 [] ls st h)) ∧
  (∀ (ls : zL) (st : zS) (h : zH), zx 243 938 ls st h = zgo 243 (zpure (.iload 5) 940 0 [] ls st h)) ∧
  (∀ (ls : zL) (st : zS) (h : zH), zx 243 940 ls st h = zgo 243 (zpure (.bipush (-2)) 942 0 [] ls st h)) ∧
  (∀ (ls : zL) (st : zS) (h : zH), zx 243 942 ls st h = zca 243 942 945 ls 229 4 0 (ztake 3 st) h) ∧
  (∀ (ls : zL) (st : zS) (h : zH), zx 243 945 ls st h = zgo 243 (zpure (.sipush (-1001)) 948 0 [] ls st h)) ∧
  (∀ (ls : zL) (st : zS) (h : zH), zx 243 948 ls st h = zgo 243 (zpure (.if_icmp .ne 120) 951 1068 [] ls st h)) ∧
  (∀ (ls : zL) (st : zS) (h : zH), zx 243 951 ls st h = zgo 243 (zpure (.iload 5) 953 0 [] ls st h)) ∧
  (∀ (ls : zL) (st : zS) (h : zH), zx 243 953 ls st h = zgo 243 (zpure (.ifCond .le 15) 956 968 [] ls st h)) ∧
  (∀ (ls : zL) (st : zS) (h : zH), zx 243 956 ls st h = zgo 243 (zpure (.aload_n 1) 957 0 [] ls st h)) ∧
  (∀ (ls : zL) (st : zS) (h : zH), zx 243 957 ls st h = zgo 243 (zpure (.iconst 0) 958 0 [] ls st h)) ∧
  (∀ (ls : zL) (st : zS) (h : zH), zx 243 958 ls st h = zgo 243 (zpure (.iconst 3) 959 0 [] ls st h)) ∧
  (∀ (ls : zL) (st : zS) (h : zH), zx 243 959 ls st h = zca 243 959 962 ls 229 4 0 (ztake 3 st) h) ∧
  (∀ (ls : zL) (st : zS) (h : zH), zx 243 962 ls st h = zgo 243 (zpure (.sipush (-1001)) 965 0 [] ls st h)) ∧
  (∀ (ls : zL) (st : zS) (h : zH), zx 243 965 ls st h = zgo 243 (zpure (.if_icmp .ne 103) 968 1068 [] ls st h)) ∧
  (∀ (ls : zL) (st : zS) (h : zH), zx 243 968 ls st h = zgo 243 (zpure (.aload_n 1) 969 0 [] ls st h)) ∧
  (∀ (ls : zL) (st : zS) (h : zH), zx 243 969 ls st h = zgo 243 (zpure (.iconst (-1)) 970 0 [] ls st h)) ∧
  (∀ (ls : zL) (st : zS) (h : zH), zx 243 970 ls st h = zgo 243 (zpure (.iconst 0) 971 0 [] ls st h)) ∧
  (∀ (ls : zL) (st : zS) (h : zH), zx 243 971 ls st h = zca 243 971 974 ls 230 4 0 (ztake 3 st) h) ∧
  (∀ (ls : zL) (st : zS) (h : zH), zx 243 974 ls st h = zgo 243 (zpure (.sipush (-1001)) 977 0 [] ls st h)) ∧
  (∀ (ls : zL) (st : zS) (h : zH), zx 243 977 ls st h = zgo 243 (zpure (.if_icmp .ne 91) 980 1068 [] ls st h)) ∧
  (∀ (ls : zL) (st : zS) (h : zH), zx 243 980 ls st h = zgo 243 (zpure (.aload_n 1) 981 0 [] ls st h)) ∧
  (∀ (ls : zL) (st : zS) (h : zH), zx 243 981 ls st h = zgo 243 (zpure (.aload_n 1) 982 0 [] ls st h)) ∧
  (∀ (ls : zL) (st : zS) (h : zH), zx 243 982 ls st h = zca 243 982 985 ls 73 1 6 (ztake 1 st) h) ∧
  (∀ (ls : zL) (st : zS) (h : zH), zx 243 985 ls st h = zgo 243 (zpure (.iconst 4) 986 0 [] ls st h)) ∧
  (∀ (ls : zL) (st : zS) (h : zH), zx 243 986 ls st h = zca 243 986 989 ls 230 4 0 (ztake 3 st) h) ∧
  (∀ (ls : zL) (st : zS) (h : zH), zx 243 989 ls st h = zgo 243 (zpure (.sipush (-1001)) 992 0 [] ls st h)) ∧
  (∀ (ls : zL) (st : zS) (h : zH), zx 243 992 ls st h = zgo 243 (zpure (.if_icmp .ne 76) 995 1068 [] ls st h)) ∧
  (∀ (ls : zL) (st : zS) (h : zH), zx 243 995 ls st h = zgo 243 (zpure (.aload_n 1) 996 0 [] ls st h)) ∧
  (∀ (ls : zL) (st : zS) (h : zH), zx 243 996 ls st h = zgo 243 (zpure (.sipush 3600) 999 0 [] ls st h)) ∧
  (∀ (ls : zL) (st : zS) (h : zH), zx 243 999 ls st h = zgo 243 (zpure (.iconst 1) 1000 0 [] ls st h)) ∧
  (∀ (ls : zL) (st : zS) (h : zH), zx 243 1000 ls st h = zca 243 1000 1003 ls 231 4 0 (ztake 3 st) h) ∧
  (∀ (ls : zL) (st : zS) (h : zH), zx 243 1003 ls st h = zgo 243 (zpure (.sipush (-1001)) 1006 0 [] ls st h)) ∧
  (∀ (ls : zL) (st : zS) (h : zH), zx 243 1006 ls st h = zgo 243 (zpure (.if_icmp .ne 62) 1009 1068 [] ls st h)) ∧
  (∀ (ls : zL) (st : zS) (h : zH), zx 243 1009 ls st h = zgo 243 (zpure (.aload_n 1) 1010 0 [] ls st h)) ∧
  (∀ (ls : zL) (st : zS) (h : zH), zx 243 1010 ls st h = zgo 243 (zpure (.sipush 3601) 1013 0 [] ls st h)) ∧
  (∀ (ls : zL) (st : zS) (h : zH), zx 243 1013 ls st h = zgo 243 (zpure (.iconst 0) 1014 0 [] ls st h)) ∧
  (∀ (ls : zL) (st : zS) (h : zH), zx 243 1014 ls st h = zgo 243 (zpure (.iconst (-1)) 1015 0 [] ls st h)) ∧
  (∀ (ls : zL) (st : zS) (h : zH), zx 243 1015 ls st h = zca 243 1015 1018 ls 232 5 0 (ztake 4 st) h) ∧
  (∀ (ls : zL) (st : zS) (h : zH), zx 243 1018 ls st h = zgo 243 (zpure (.sipush (-1001)) 1021 0 [] ls st h)) ∧
  (∀ (ls : zL) (st : zS) (h : zH), zx 243 1021 ls st h = zgo 243 (zpure (.if_icmp .ne 47) 1024 1068 [] ls st h)) ∧
  (∀ (ls : zL) (st : zS) (h : zH), zx 243 1024 ls st h = zgo 243 (zpure (.aload_n 1) 1025 0 [] ls st h)) ∧
  (∀ (ls : zL) (st : zS) (h : zH), zx 243 1025 ls st h = zgo 243 (zpure (.iconst 1) 1026 0 [] ls st h)) ∧
  (∀ (ls : zL) (st : zS) (h : zH), zx 243 1026 ls st h = zgo 243 (zpure (.bipush (-61)) 1028 0 [] ls st h)) ∧
  (∀ (ls : zL) (st : zS) (h : zH), zx 243 1028 ls st h = zgo 243 (zpure (.iconst 0) 1029 0 [] ls st h)) ∧
  (∀ (ls : zL) (st : zS) (h : zH), zx 243 1029 ls st h = zca 243 1029 1032 ls 232 5 0 (ztake 4 st) h) ∧
  (∀ (ls : zL) (st : zS) (h : zH), zx 243 1032 ls st h = zgo 243 (zpure (.sipush (-1001)) 1035 0 [] ls st h)) ∧
  (∀ (ls : zL) (st : zS) (h : zH), zx 243 1035 ls st h = zgo 243 (zpure (.if_icmp .ne 33) 1038 1068 [] ls st h)) ∧
  (∀ (ls : zL) (st : zS) (h : zH), zx 243 1038 ls st h = zgo 243 (zpure (.aload_n 1) 1039 0 [] ls st h)) ∧
  (∀ (ls : zL) (st : zS) (h : zH), zx 243 1039 ls st h = zgo 243 (zpure (.iload 6) 1041 0 [] ls st h)) ∧
  (∀ (ls : zL) (st : zS) (h : zH), zx 243 1041 ls st h = zca 243 1041 1044 ls 238 3 0 (ztake 2 st) h) ∧
  (∀ (ls : zL) (st : zS) (h : zH), zx 243 1044 ls st h = zgo 243 (zpure (.ldc2_w 127) 1047 0 [18446744073709550615] ls st h)) :=
  ⟨zx_0 rfl, zx_2c rfl, zx_0 rfl, zx_0 rfl, zx_0 rfl, zx_0 rfl, zx_2c rfl, zx_0 rfl, zx_0 rfl, zx_0 rfl, zx_0 rfl, zx_0 rfl, zx_2c rfl, zx_0 rfl, zx_0 rfl, zx_0 rfl, zx_0 rfl, zx_0 rfl, zx_0 rfl, zx_0 rfl, zx_2c rfl, zx_0 rfl, zx_0 rfl, zx_0 rfl, zx_0 rfl, zx_0 rfl, zx_2c rfl, zx_0 rfl, zx_0 rfl, zx_0 rfl, zx_0 rfl, zx_2c rfl, zx_0 rfl, zx_2c rfl, zx_0 rfl, zx_0 rfl, zx_0 rfl, zx_0 rfl, zx_0 rfl, zx_2c rfl, zx_0 rfl, zx_0 rfl, zx_0 rfl, zx_0 rfl, zx_0 rfl, zx_0 rfl, zx_2c rfl, zx_0 rfl, zx_0 rfl, zx_0 rfl, zx_0 rfl, zx_0 rfl, zx_0 rfl, zx_2c rfl, zx_0 rfl, zx_0 rfl, zx_0 rfl, zx_0 rfl, zx_2c rfl, zx_0 rfl⟩
set_option maxRecDepth 4000 in
theorem z243_b9 :
  (∀ (ls : zL) (st : zS) (h : zH), zx 243 1047 ls st h = zgo 243 (zpure .lcmp 1048 0 [] ls st h)) ∧
  (∀ (ls : zL) (st : zS) (h : zH), zx 243 1048 ls st h = zgo 243 (zpure (.ifCond .ne 20) 1051 1068 [] ls st h)) ∧
  (∀ (ls : zL) (st : zS) (h : zH), zx 243 1051 ls st h = zgo 243 (zpure (.aload_n 1) 1052 0 [] ls st h)) ∧
  (∀ (ls : zL) (st : zS) (h : zH), zx 243 1052 ls st h = zca 243 1052 1055 ls 73 1 6 (ztake 1 st) h) ∧
  (∀ (ls : zL) (st : zS) (h : zH), zx 243 1055 ls st h = zgo 243 (zpure (.ifCond .ne 15) 1058 1070 [] ls st h)) ∧
  (∀ (ls : zL) (st : zS) (h : zH), zx 243 1058 ls st h = zgo 243 (zpure (.aload_n 1) 1059 0 [] ls st h)) ∧
  (∀ (ls : zL) (st : zS) (h : zH), zx 243 1059 ls st h = zca 243 1059 1062 ls 237 2 0 (ztake 1 st) h) ∧
  (∀ (ls : zL) (st : zS) (h : zH), zx 243 1062 ls st h = zgo 243 (zpure (.sipush (-1001)) 1065 0 [] ls st h)) ∧
  (∀ (ls : zL) (st : zS) (h : zH), zx 243 1065 ls st h = zgo 243 (zpure (.if_icmp .eq 5) 1068 1070 [] ls st h)) ∧
  (∀ (ls : zL) (st : zS) (h : zH), zx 243 1068 ls st h = zgo 243 (zpure (.iconst 0) 1069 0 [] ls st h)) ∧
  (∀ (ls : zL) (st : zS) (h : zH), zx 243 1069 ls st h = zret 1 st h) ∧
  (∀ (ls : zL) (st : zS) (h : zH), zx 243 1070 ls st h = zgo 243 (zpure (.aload_n 1) 1071 0 [] ls st h)) ∧
  (∀ (ls : zL) (st : zS) (h : zH), zx 243 1071 ls st h = zca 243 1071 1074 ls 240 4 0 (ztake 1 st) h) ∧
  (∀ (ls : zL) (st : zS) (h : zH), zx 243 1074 ls st h = zgo 243 (zpure (.lload_n 3) 1075 0 [] ls st h)) ∧
  (∀ (ls : zL) (st : zS) (h : zH), zx 243 1075 ls st h = zgo 243 (zpure .lcmp 1076 0 [] ls st h)) ∧
  (∀ (ls : zL) (st : zS) (h : zH), zx 243 1076 ls st h = zgo 243 (zpure (.ifCond .ne 7) 1079 1083 [] ls st h)) ∧
  (∀ (ls : zL) (st : zS) (h : zH), zx 243 1079 ls st h = zgo 243 (zpure (.iconst 1) 1080 0 [] ls st h)) ∧
  (∀ (ls : zL) (st : zS) (h : zH), zx 243 1080 ls st h = zgo 243 (zpure (.goto 4) 1083 1084 [] ls st h)) ∧
  (∀ (ls : zL) (st : zS) (h : zH), zx 243 1083 ls st h = zgo 243 (zpure (.iconst 0) 1084 0 [] ls st h)) ∧
  (∀ (ls : zL) (st : zS) (h : zH), zx 243 1084 ls st h = zret 1 st h) :=
  ⟨zx_0 rfl, zx_0 rfl, zx_0 rfl, zx_2c rfl, zx_0 rfl, zx_0 rfl, zx_2c rfl, zx_0 rfl, zx_0 rfl, zx_0 rfl, zx_1 rfl, zx_0 rfl, zx_2c rfl, zx_0 rfl, zx_0 rfl, zx_0 rfl, zx_0 rfl, zx_0 rfl, zx_0 rfl, zx_1 rfl⟩

/-! the law's entry: what holds there of the world, and a run of the abstract machine is the law's -/
theorem zst_a1 {t : FieldType} (hp : ∀ (U : State) (cA : ClassId), va_RA U cA t = (U.vm.findClass ("[" ++ t.toString) = some cA)) {s : State} {args : Array Value} (h : (Cond.arrayClass t).before args s = true) : ∃ cA : ClassId, ArrOfT s cA t ∧ va_RA s cA t := by
  obtain ⟨c, k, comp, h1, h2, h3⟩ := Cond.arrayClass_spec h
  exact ⟨c, fun n z => ⟨fun k h => (by cases h), k, h2, comp, h3⟩, by rw [hp]; exact h1⟩
theorem zst_a2 {C : String} {s : State} {args : Array Value} (h : (Cond.arrayOver (.object C)).before args s = true) : ∃ cA : ClassId, ArrOfT s cA (.object C) ∧ va_RA s cA (.object C) := by
  obtain ⟨comp, c, k, h1, -, h2, h3, h4⟩ := Cond.arrayOver_spec h
  exact ⟨c, fun n z => ⟨fun k h => (by cases h), k, h2, comp, h3⟩, k, comp, h2, h3, h1, h4⟩
theorem zst_a3 {t : FieldType} {s : State} {args : Array Value} (h : (Cond.arrayOver (.array t)).before args s = true) : ∃ cA : ClassId, ArrOfT s cA (.array t) ∧ va_RA s cA (.array t) := by
  obtain ⟨comp, c, k, -, -, h2, h3, h4⟩ := arrayOverA_spec h
  exact ⟨c, fun n z => ⟨fun k h => (by cases h), k, h2, comp, h3⟩, h4⟩
theorem zst_arr {s : State} {args : Array Value} (ht : ∀ w ∈ lw_tbl, w.before args s = true) : ∃ cs : Nat → ClassId, ∀ i, i < 9 → ArrOfT s (cs i) (zT.getD i .int) ∧ va_RA s (cs i) (zT.getD i .int) := by
  obtain ⟨c0, h0⟩ := zst_a1 (t := .int) (fun _ _ => rfl) (ht _ (by decide +kernel))
  obtain ⟨c1, h1⟩ := zst_a1 (t := .byte) (fun _ _ => rfl) (ht _ (by decide +kernel))
  obtain ⟨c6, h6⟩ := zst_a2 (C := "java/lang/Object") (ht _ (by decide +kernel))
  obtain ⟨c7, h7⟩ := zst_a3 (t := .byte) (ht _ (by decide +kernel))
  refine ⟨fun i => ([c0, c1, c0, c0, c0, c0, c6, c7, c0] : List ClassId).getD i c0, fun i hi => ?_⟩
  match i, hi with
  | 0, _ => exact h0
  | 1, _ => exact h1
  | 2, _ => exact h0
  | 3, _ => exact h0
  | 4, _ => exact h0
  | 5, _ => exact h0
  | 6, _ => exact h6
  | 7, _ => exact h7
  | 8, _ => exact h0
def zSlots : List Nat := (List.range 8).map zN
theorem zst_K {s : State} {args : Array Value} (ht : ∀ w ∈ lw_tbl, w.before args s = true) : ∃ (D : va_G) (cs : Nat → ClassId), va_K D zcl (ztys cs) s := by
  obtain ⟨cs, hcs⟩ := zst_arr ht
  have hone : ∀ c, c < 8 → ∃ (cC : ClassId) (iS : Nat → Nat), u_Kn s (zFq c).1 (zFq c).2.1 (zFq c).2.2 cC iS := by
    intro c hc
    match c, hc with
    | 0, _ => exact u_known (n := 8) ht inX0 (ht _ (by decide +kernel))
    | 1, _ => exact u_known (n := 10) ht inX1 (ht _ (by decide +kernel))
    | 2, _ => exact u_known (n := 11) ht inX2 (ht _ (by decide +kernel))
    | 3, _ => exact u_known (n := 3) ht inX3 (ht _ (by decide +kernel))
    | 4, _ => exact u_known (n := 4) ht inX4 (ht _ (by decide +kernel))
    | 5, _ => exact u_known (n := 8) ht inX5 (ht _ (by decide +kernel))
    | 6, _ => exact u_known (n := 8) ht (fun w hw => absurd hw List.not_mem_nil) (ht _ (by decide +kernel))
    | 7, _ => exact u_known (n := 3) ht inJx4a65c (ht _ (by decide +kernel))
  have hch : ∀ c, ∃ q : ClassId × (Nat → Nat), c < 8 → u_Kn s (zFq c).1 (zFq c).2.1 (zFq c).2.2 q.1 q.2 := by
    intro c
    by_cases hc : c < 8
    · obtain ⟨a, b, h⟩ := hone c hc
      exact ⟨(a, b), fun _ => h⟩
    · exact ⟨(0, fun _ => 0), fun h => absurd h hc⟩
  refine ⟨(fun c => (Classical.choose (hch c)).1, fun c => (Classical.choose (hch c)).2), cs, fun c q hq => ?_, fun k q hq => ?_⟩
  · have hc : c < 8 := (List.getElem?_eq_some_iff.mp hq).1
    have e : zFq c = q := by
      have h9 : zcl[c]? = some (zFq c) := by
        match c, hc with
        | 0, _ => rfl
        | 1, _ => rfl
        | 2, _ => rfl
        | 3, _ => rfl
        | 4, _ => rfl
        | 5, _ => rfl
        | 6, _ => rfl
        | 7, _ => rfl
      exact Option.some.inj (h9.symm.trans hq)
    rw [← e]
    exact Classical.choose_spec (hch c) hc
  · unfold ztys at hq
    rw [List.getElem?_map] at hq
    cases hr : (List.range 9)[k]? with
    | none => rw [hr] at hq; cases hq
    | some i =>
      rw [hr] at hq
      cases hq
      have hi := List.mem_range.mp (List.mem_of_getElem? hr)
      exact hcs i hi
theorem zst_TX {s : State} {b : Nat} {A : Nat → Prop} (ht : ∀ w ∈ lw_tbl, w.before #[Value.ref b] s = true) (hs : ∀ w ∈ flatC (Jvm.Cond.and given_1 narrow_1), w.before #[Value.ref b] s = true) (hA : ∀ a : Nat, a < s.heap.size → ¬ A a) : zTX A s := by
  obtain ⟨adK, adV, h1, h2⟩ := vk_Sof (args := #[Value.ref b]) (s := s) (N := 1) (tm := fun _ => .string "PlayoutChainLaw" 220) (len := [4]) (byt := [[102, 99, 112, 106]]) (A := A) (fun i hi => (by decide : ∀ i : Nat, i < 1 → [4].getD i 0 < 2 ^ 31) i hi) (fun i hi => hs _ (by decide +kernel)) (fun i hi => hs _ (by decide +kernel)) (fun i hi => hs _ (by decide +kernel))
    (fun i hi => by
      obtain rfl : i = 0 := by omega
      exact hs _ (by decide +kernel))
    (fun i hi j hj => by
      obtain rfl : i = 0 := by omega
      have hj : j < 4 := hj
      match j, hj with
      | 0, _ => exact hs _ (by decide +kernel)
      | 1, _ => exact hs _ (by decide +kernel)
      | 2, _ => exact hs _ (by decide +kernel)
      | 3, _ => exact hs _ (by decide +kernel))
    (fun i j hi hj hne => absurd (by omega : i = j) hne) hA
  have hR : (Cond.stringRef "PlayoutChainLaw" 220 "fcpj").before #[Value.ref b] s = true := ht _ (by decide +kernel)
  refine ⟨⟨adK, adV, h1, vk_R.of hR (h2 0 (by decide))⟩, va_Zof (ht _ (by decide +kernel)) (ht _ (by decide +kernel)) (va_eqt (hs _ (by decide +kernel))) hA, vx_Zqof (ht _ (by decide +kernel)) (ht _ (by decide +kernel)) (hs _ (by decide +kernel)) hA⟩
theorem zst_not : (zExs.all fun E => zExs.all fun F => decide (E = F) || (flatC (Jvm.Cond.and given_1 narrow_1)).contains (.not (.castable E F))) = true := by decide +kernel
theorem zst_GS {s : State} {b L : Nat} {xs : Nat → Int32} (hL : L ≤ 3072) (ht : ∀ w ∈ lw_tbl, w.before #[Value.ref b] s = true) (hgv : (Jvm.Cond.and given_1 narrow_1).before #[Value.ref b] s = true) (hX : va_X b L xs s s.heap) (hb : b < s.heap.size) :
    ∃ (D : va_G) (cs : Nat → ClassId) (e1 mi : Nat), zGS D cs (fun q => s.heap.size ≤ q) b e1 mi L xs s := by
  have hs := flat_of_before _ hgv
  obtain ⟨D, cs, hK⟩ := zst_K ht
  have hA : ∀ a : Nat, a < s.heap.size → ¬ (fun q => s.heap.size ≤ q) a := fun a h => Nat.not_le.mpr h
  obtain ⟨e1, he1, hT⟩ := va_Tof (tm := .static "java/util/ArrayList" "DEFAULTCAPACITY_EMPTY_ELEMENTDATA" "[Ljava/lang/Object;") (ty := .object "java/lang/Object") (N := 0) (f := fun _ => .null) (A := fun q => s.heap.size ≤ q) (by decide) (hs _ (by decide +kernel)) (va_eqt (z := 0) (hs _ (by decide +kernel))) (fun j hj => absurd hj (Nat.not_lt_zero _)) hA
  obtain ⟨mi, hmi⟩ := va_Mi.of (C := "[Ljava/lang/Object;") (hs _ (by decide +kernel))
  have hal : (Cond.laysStatic "java/util/ArrayList" "DEFAULTCAPACITY_EMPTY_ELEMENTDATA" "[Ljava/lang/Object;").before #[Value.ref b] s = true := ht _ (by decide +kernel)
  have hai : (Cond.initialized "java/util/ArrayList").before #[Value.ref b] s = true := ht _ (by decide +kernel)
  refine ⟨D, cs, e1, mi, hK, hX, hb, Nat.not_le.mpr hb, fun q h => h, hL, va_Zof hal hai he1 hA, ⟨_, hT⟩, hmi, va_Dc.of (ht _ (by decide +kernel)), ?_, ?_, ?_, ?_, ?_, ?_, vx_Zqof (ht _ (by decide +kernel)) (ht _ (by decide +kernel)) (hs _ (by decide +kernel)) hA, vx_Zqof (ht _ (by decide +kernel)) (ht _ (by decide +kernel)) (hs _ (by decide +kernel)) hA, va_T.out hT⟩
  · exact va_AO.of (ht (.arrayOver (.object "java/lang/Object")) (by decide +kernel))
  · exact (show (Cond.arrayOver (.array .byte)).before #[Value.ref b] s = true from ht _ (by decide +kernel))
  · exact zst_TX ht hs hA
  · intro w hw
    obtain ⟨h1, h2⟩ := List.mem_filter.mp hw
    have h3 := ht w h1
    match w, h2, h3 with
    | .castable _ _, _, h => exact va_tabs rfl rfl h
    | .declares _, _, h => exact va_tabs rfl rfl h
  · intro own is tx hm
    have h := ht _ hm
    have h' : (Cond.stringRef own is tx).before #[] s = true := h
    cases hc : s.vm.findClass own with
    | none => simp [Cond.before, Cond.holds, Cond.value, hc] at h
    | some cur =>
      obtain ⟨k, cf, i, a, -, -, -, -, -, he⟩ := Cond.stringRef_spec hc h'
      exact ⟨a, h', he⟩
  · intro E hE F hF hn
    have g := List.all_eq_true.mp (List.all_eq_true.mp zst_not E hE) F hF
    simp only [Bool.or_eq_true, decide_eq_true_eq] at g
    rcases g with g | g
    · exact absurd g hn
    · exact va_Nc.of (hs _ (List.contains_iff_mem.mp g))
/-- the cells at the entry: the script, ArrayList's empty array, a class object -/
def zh0 (L : Nat) (xs : Nat → Int32) : zH := ((3, 0, 0), fun a => if a = 0 then 30 else if a = 1 then 31 else if a = 2 then 50 else 60, fun a => if a = 0 then L else 0, fun a i => if a = 0 then .int (xs i) else .null)
theorem zh0_inv (L : Nat) (xs : Nat → Int32) : zINV L xs (zh0 L xs) := by
  have hk : ∀ a, zk (zh0 L xs) a = if a = 0 then 30 else if a = 1 then 31 else if a = 2 then 50 else 60 := fun _ => rfl
  refine ⟨⟨Nat.le_refl _, fun a h => ?_, rfl, rfl, rfl, rfl, rfl, fun _ _ => rfl, fun a i v hv => ?_⟩, fun a h => ?_, fun a h => ?_⟩
  · rw [hk] at h
    split at h
    · omega
    · split at h
      · omega
      · split at h <;> omega
  · have : zm (zh0 L xs) a i = if a = 0 then .int (xs i) else .null := rfl
    rw [this] at hv
    split at hv <;> cases hv
  · rw [hk] at h
    split at h
    · omega
    · split at h
      · omega
      · split at h <;> omega
  · rw [hk] at h
    by_cases h0 : a = 0
    · exact Or.inr (Or.inl h0)
    · by_cases h1 : a = 1
      · exact Or.inr (Or.inr h1)
      · rw [if_neg h0, if_neg h1] at h
        split at h <;> omega
theorem zst_forget {s t : State} {L : List Loc} {k n : Nat} (h : s.sameButNew t L k n) (hf : ∀ q ∈ L, s.heap.size ≤ q.base) : s.sameButNew t [] k n :=
  ⟨h.1, h.2.1, h.2.2.1, h.2.2.2.1, h.2.2.2.2.1, fun a c hc => by
    obtain ⟨c', h1, h2, h3, h4⟩ := h.2.2.2.2.2 a c hc
    exact ⟨c', h1, h2, h3, fun i _ => h4 i (fun hm => absurd (Array.getElem?_eq_some_iff.mp hc).1 (Nat.not_lt.mpr (hf _ hm)))⟩⟩
/-- from a run of the abstract machine: the law comes to its end with true -/
theorem zstart {p : Program} {e : Env} {s : State} {m : MethodId} {below : List Frame} {meth : Method} {c : Code} (l : Launch) (hflags : l.flags = flags0) {b L : Nat} {xs : Nat → Int32} (hL : L ≤ 3072) (C0 : lw_At p s m meth c b L xs) (hname : meth.name = "law") (htab : c.exceptionTable.toList = [])
    {h' : zH} (hrun : zc 243 16 [.ref 0] (zh0 L xs) = some (.inl (some (.int 1)), h')) (hu : zuc h' ≤ 600086) (hus : zus h' ≤ 7301442) :
    W p l e room_1 s m #[Value.ref b] below meth c s.heap [] 0 0 (lw_Z below #[Value.ref b] s) (entryFrame m ([Value.ref b] : List Value).toArray 16) := by
  obtain ⟨hx, hb, hr, hml, hown, hts, hX, hbl, hlocks, hgv⟩ := C0
  obtain ⟨D, cs, e1, mi, hG⟩ := zst_GS hL hts hgv hX hbl
  have hl : l.stackTraces = false := by
    unfold Launch.stackTraces
    rw [hflags]
    decide +kernel
  have hsk : zSOK (zn (zh0 L xs)) [.ref 0] := by
    intro v hv a ha
    rcases List.mem_cons.mp hv with rfl | hv
    · cases ha
      exact Nat.zero_lt_succ _
    · cases hv
  have hph := (zx_sound zcode_ok (D := D) (cs := cs) (A := fun q => s.heap.size ≤ q) (b := b) (e1 := e1) (mi := mi) (l := l) 243 0 (zentry 16 [.ref 0]) [] (zh0 L xs) _ hrun (by decide) (zh0_inv L xs) (zLOK_entry hsk) (zSOK_nil.mpr trivial)).2
  obtain ⟨lsC, hLR, hfr⟩ := zentry_LR (ρ := fun a => if a = 0 then b else if a = 1 then e1 else mi) (n := 16) (as := [.ref 0]) rfl (by decide)
  have hfr := hfr m
  have e9 : (([.ref 0] : List Value).map (vmap fun a => if a = 0 then b else if a = 1 then e1 else mi)).toArray = ([Value.ref b] : List Value).toArray := rfl
  rw [e9] at hfr
  rw [hfr]
  have E : zEnv 243 D cs (fun q => s.heap.size ≤ q) b e1 mi L xs p l room_1 s m #[Value.ref b] meth c :=
    ⟨hG, hx, hb, hown, fun w hw => hts w (List.mem_filter.mp hw).1, hml, hname, hr, hlocks, htab, ⟨by decide, by decide⟩, hl, by decide⟩
  have hz0 : zws (fun a => if a = 0 then b else if a = 1 then e1 else mi) cs (zh0 L xs) = [] := rfl
  have F : zFm 243 D cs (fun q => s.heap.size ≤ q) b e1 mi L xs s (fun a => if a = 0 then b else if a = 1 then e1 else mi) (zentry 16 [.ref 0]) [] (zh0 L xs) lsC s.heap [] :=
    ⟨zentry_len _ _, zh0_inv L xs, hLR, zLOK_entry hsk, zSOK_nil.mpr trivial, by
      unfold zHR
      rw [hz0]
      exact ⟨fun k q h => by simp at h, fun i j p q h => by simp at h, fun k q h => by simp at h⟩, ⟨Nat.le_refl _, fun _ _ _ => rfl, fun l hl => nomatch hl⟩, rfl, rfl, rfl⟩
  have hc0 : zuc (zh0 L xs) = 0 := rfl
  have hs0 : zus (zh0 L xs) = 0 := rfl
  have hcount : 0 + (zuc h' - zuc (zh0 L xs)) ≤ 600086 ∧ 0 + (zus h' - zus (zh0 L xs)) ≤ 7301442 := ⟨by omega, by omega⟩
  have K := hph p e room_1 s m #[Value.ref b] below meth c (fun _ _ o _ => o = .returned (some (.int 1))) (fun _ _ _ => False) 600086 7301442 _ lsC s.heap [] 0 0 E F hcount ⟨by decide, by decide⟩
    ⟨fun v hv ρ' t _ _ _ _ => by cases hv; rfl, fun x hx => nomatch hx⟩
  intro T hT X
  obtain ⟨t, a1, o, b1, b2, b3⟩ := K T hT X
  refine ⟨t, a1, o, b1, b2, ?_⟩
  rcases b3 with ⟨rfl, L9, ⟨hv, hW, hs9⟩, hf⟩ | ⟨q, -, Ex, ce, L9, hF, -⟩
  · exact ⟨rfl, lw_closed (d0 := s.drawn) (Drawn.sameBut.refl s.drawn lw_cs) hv hW (zst_forget hs9 hf)⟩
  · exact hF.elim

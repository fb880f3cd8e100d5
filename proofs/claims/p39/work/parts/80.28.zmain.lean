/-! the abstract machine's runs are the machine's -/
def zTb (k : Nat) : List ExceptionTableEntry := match zHH k with
  | none => []
  | some hh => tableOf hh
def zrm (k mc ms : Nat) : Room := { frames := zRK k + 8, cells := mc, slots := ms, locals := 128 * (zRK k + 1) }
def zEnv (k : Nat) (D : va_G) (cs : Nat → ClassId) (A : Nat → Prop) (b e1 mi L : Nat) (xs : Nat → Int32) (p : Program) (l : Launch) (R : Room) (s : State) (m : MethodId) (args : Array Value) (meth : Method) (c : Code) : Prop :=
  zGS D cs A b e1 mi L xs s ∧ p.tables.exec = Jvm.exec ∧ c.code = zB k ∧ s.vm.findClass (zY k).cls = some m.cls ∧ (∀ w ∈ zW, w.before args s = true) ∧ c.maxLocals = zML k ∧ meth.name = (zY k).name ∧ meth.sig.returnType = zRT k ∧ meth.locks = false ∧ c.exceptionTable.toList = zTb k ∧ (zRK k + 8 ≤ R.frames ∧ 128 * (zRK k + 1) ≤ R.locals) ∧ l.stackTraces = false ∧ k < 244
theorem zEnv.ctx {k : Nat} {D : va_G} {cs : Nat → ClassId} {A : Nat → Prop} {b e1 mi L : Nat} {xs : Nat → Int32} {p : Program} {l : Launch} {R : Room} {s : State} {m : MethodId} {args : Array Value} {meth : Method} {c : Code} (E : zEnv k D cs A b e1 mi L xs p l R s m args meth c) : zCtx k D cs A b e1 mi L xs p R s m args meth c := by
  obtain ⟨h1, h2, h3, h4, h5, h6, h7, h8, h9, h10, ⟨h11, h12⟩, h13, h14⟩ := E
  exact h1.ctx h2 h3 h4 h5 h6 h7 ⟨by omega, by omega⟩
/-- a frame and its image -/
def zFm (k : Nat) (D : va_G) (cs : Nat → ClassId) (A : Nat → Prop) (b e1 mi L : Nat) (xs : Nat → Int32) (s : State) (ρ : Nat → Nat) (ls : zL) (st : zS) (h : zH) (lsC : Array Slot) (H : Heap) (locs : List Loc) : Prop :=
  ls.length = zML k ∧ zINV L xs h ∧ zLR ρ ls lsC ∧ zLOK (zn h) ls ∧ zSOK (zn h) st ∧ zHR D cs A ρ h H ∧ va_S A s.heap H locs ∧ (ρ 0 = b ∧ ρ 1 = e1 ∧ ρ 2 = mi)
/-- what a method owes at its end -/
def zEnd (D : va_G) (cs : Nat → ClassId) (A : Nat → Prop) (args : Array Value) (s : State) (Qc : Array Value → State → Outcome → State → Prop) (XC : String → State → State → Prop) (ρ : Nat → Nat) (n : Nat) (q : zR × zH) : Prop :=
  (∀ v, q.1 = .inl v → ∀ (ρ' : Nat → Nat) (t : State), Ext n ρ ρ' → zHR D cs A ρ' q.2 t.heap → va_F A s t → s.WarmedH t.vm → Qc args s (.returned (v.map (vmap ρ'))) t) ∧
  (∀ E, q.1 = .inr E → ∀ (ρ' : Nat → Nat) (t : State), Ext n ρ ρ' → zHR D cs A ρ' q.2 t.heap → va_F A s t → s.vm.Alike t.vm → XC (zEx E) s t)
theorem zEnd.ext {D : va_G} {cs : Nat → ClassId} {A : Nat → Prop} {args : Array Value} {s : State} {Qc : Array Value → State → Outcome → State → Prop} {XC : String → State → State → Prop} {ρ ρ1 : Nat → Nat} {n n1 : Nat} {q : zR × zH} (hn : n ≤ n1) (he : Ext n ρ ρ1) (h : zEnd D cs A args s Qc XC ρ n q) : zEnd D cs A args s Qc XC ρ1 n1 q :=
  ⟨fun v hv ρ' t hx => h.1 v hv ρ' t (Ext.tr hn he hx), fun E hE ρ' t hx => h.2 E hE ρ' t (Ext.tr hn he hx)⟩
theorem zF_of {A : Nat → Prop} {s t : State} {H : Heap} {locs : List Loc} (h : va_S A s.heap H locs) (ht : t.heap = H) : va_F A s t := by
  subst ht
  exact ⟨h.1, h.2.1⟩
theorem zF_of' {A : Nat → Prop} {s t : State} {H : Heap} {locs : List Loc} (h : va_S A s.heap H locs) (h1 : H.size ≤ t.heap.size) (h2 : ∀ q : Nat, q < H.size → t.heap[q]? = H[q]?) : va_F A s t :=
  ⟨Nat.le_trans h.1 h1, fun q hq hA => (h2 q (Nat.lt_of_lt_of_le hq h.1)).trans (h.2.1 q hq hA)⟩
theorem zS_of' {A : Nat → Prop} {H0 H H1 : Heap} {locs : List Loc} (h : va_S A H0 H locs) (h1 : H.size ≤ H1.size) (h2 : ∀ q : Nat, q < H.size → H1[q]? = H[q]?) : va_S A H0 H1 locs :=
  ⟨Nat.le_trans h.1 h1, fun q hq hA => (h2 q (Nat.lt_of_lt_of_le hq h.1)).trans (h.2.1 q hq hA), h.2.2⟩
theorem zHR.grow {D : va_G} {cs : Nat → ClassId} {A : Nat → Prop} {ρ : Nat → Nat} {h : zH} {H H1 : Heap} (hR : zHR D cs A ρ h H) (h2 : ∀ q : Nat, q < H.size → H1[q]? = H[q]?) : zHR D cs A ρ h H1 :=
  ⟨hR.1.kept fun k q hk => h2 _ (vx_lt hR.1 hk), hR.2⟩
theorem zHR.chg {D : va_G} {cs : Nat → ClassId} {A : Nat → Prop} {ρ : Nat → Nat} {h : zH} {H : Heap} {c n : Nat} (hR : zHR D cs A ρ h H) : zHR D cs A ρ (zchg h c n) H := hR
section ZM
variable {p : Program} {l : Launch} {e : Env} {R : Room} {s : State} {m : MethodId} {args : Array Value} {below : List Frame} {meth : Method} {c : Code}
variable {k pc : Nat} {D : va_G} {cs : Nat → ClassId} {A : Nat → Prop} {b e1 mi L : Nat} {xs : Nat → Int32} {ρ : Nat → Nat} {ls : zL} {st : zS} {h : zH} {lsC : Array Slot} {H : Heap} {locs : List Loc} {cells slots mc ms : Nat}
variable {Qc : Array Value → State → Outcome → State → Prop} {XC : String → State → State → Prop}
theorem zret_sound {i : Instr} {t : Nat} {q : zR × zH} (E : zEnv k D cs A b e1 mi L xs p l R s m args meth c) (F : zFm k D cs A b e1 mi L xs s ρ ls st h lsC H locs) (hz : zok1 k pc i t) (hq : zret t st h = some q) (hc : cells ≤ mc ∧ slots ≤ ms) (hend : zEnd D cs A args s Qc XC ρ (zn h) q) :
    W p l e R s m args below meth c H locs cells slots (vx_MQ below Qc XC args s mc ms A) (F0 m pc lsC (st.map (vmap ρ))) := by
  obtain ⟨-, hx, hb, -, -, -, -, hr, hlk, -, -, -, -⟩ := E
  obtain ⟨-, -, -, -, -, hR, hS, -⟩ := F
  obtain ⟨hd, hz⟩ := hz
  refine W.widen hc.1 hc.2 (vx_ret ?_)
  unfold zret at hq
  split at hq
  · split at hq
    · rename_i ht
      cases hq
      rcases hz with ⟨-, hi, hT⟩ | ⟨g, -⟩ | ⟨g, -⟩ | ⟨g, -⟩ | ⟨g, -⟩
      · subst hi
        exact W.vret hx hb (hr.trans hT) (fun t' ht' hW => hend.1 none rfl ρ t' Ext.rf (by rw [ht']; exact hR) (zF_of hS ht') hW) hS.2.2 hd hlk
      all_goals (exfalso; omega)
    · cases hq
  · rename_i v
    split at hq
    · rename_i ht
      cases hq
      have hend' : ∀ t' : State, t'.heap = H → s.WarmedH t'.vm → Qc args s (.returned (some (vmap ρ v))) t' := fun t' ht' hW => hend.1 (some v) rfl ρ t' Ext.rf (by rw [ht']; exact hR) (zF_of hS ht') hW
      rcases hz with ⟨g, -⟩ | ⟨g, hi, ty, hT, hty⟩ | ⟨g, hi, hT⟩ | ⟨g, hi, ty, hT, hty⟩ | ⟨g, hi, hT⟩
      · exact absurd g ht.1
      · subst hi
        have hf := zfit_ok (ρ := ρ) (hty ▸ ht.2)
        cases v with
        | int x => exact W.zret hx hb (hr.trans hT) hf.1 hend' hS.2.2 hd hlk
        | _ =>
          exfalso
          have h9 := ht.2
          have g9 : t = 0 ∨ t = 1 ∨ t = 2 ∨ t = 3 := by omega
          rcases g9 with g9 | g9 | g9 | g9 <;> (rw [g9] at h9; simp [zfit] at h9)
      · subst hi
        subst g
        cases v with
        | float x => exact W.fret hx hb (hr.trans hT) hend' hS.2.2 hd hlk
        | _ => exfalso; revert ht; simp [zfit]
      · subst hi
        subst g
        have hrt : (∃ n, ty = .object n) ∨ ∃ t, ty = .array t := by
          cases ty <;> first | exact Or.inl ⟨_, rfl⟩ | exact Or.inr ⟨_, rfl⟩ | (simp [ztag] at hty; done)
        cases v with
        | ref x => exact W.aret hx hb (hr.trans hT) hrt (Or.inr ⟨_, rfl⟩) hend' hS.2.2 hd hlk
        | null => exact W.aret hx hb (hr.trans hT) hrt (Or.inl rfl) hend' hS.2.2 hd hlk
        | _ => exfalso; revert ht; simp [zfit]
      · subst hi
        subst g
        cases v with
        | long x => exact W.lret hx hb (hr.trans hT) hend' hS.2.2 hd hlk
        | _ => exfalso; revert ht; simp [zfit]
    · cases hq
  · cases hq
theorem zcat_sum {ρ : Nat → Nat} : ∀ (st : zS), ((st.map (vmap ρ)).map fun v => v.category).sum ≤ 2 * st.length
  | [] => Nat.le_refl _
  | v :: st => by
    have h1 : (vmap ρ v).category ≤ 2 := by rw [vmap_cat]; cases v <;> simp [Value.category]
    have h2 := zcat_sum (ρ := ρ) st
    simp only [List.map_cons, List.sum_cons, List.length_cons] at h2 ⊢
    omega
theorem zND_use {w : Jvm.Cond} {s : State} {args : Array Value} (hw : zisND w = true) (h : va_Nw w s) : w.before args s = true := by
  match w, hw, h with
  | .castable _ _, _, h => exact va_Nw.use rfl h
  | .declares _, _, h => exact va_Nw.use rfl h
theorem zthrow_sound {E ik is ic w : Nat} (V : zEnv k D cs A b e1 mi L xs p l R s m args meth c) (F : zFm k D cs A b e1 mi L xs s ρ ls st h lsC H locs) (hz : zok3 k pc E ik is ic w) (hst : st.length ≤ 4) (hc : cells + 1 ≤ mc ∧ slots + 6 ≤ ms) (hR9 : mc ≤ R.cells ∧ ms ≤ R.slots) (hend : zEnd D cs A args s Qc XC ρ (zn h) (.inr E, zchg h 1 6)) :
    W p l e R s m args below meth c H locs cells slots (vx_MQ below Qc XC args s mc ms A) (F0 m pc lsC (st.map (vmap ρ))) := by
  obtain ⟨hG, hx, hb, hown, hws, hml, -, hr, hlk, htb, hRR, hl, hk⟩ := V
  obtain ⟨hln, -, hL, -, -, hR, hS, -⟩ := F
  obtain ⟨hH, hmem, d0, d3, hz⟩ := hz
  obtain ⟨⟨hE5, hcl, hini⟩, ⟨text, hstr⟩, hall⟩ := zXTab_ok _ hmem
  dsimp only at hE5 hcl hini hstr hall
  rw [zown_eq k hk] at hcl hstr hall
  obtain ⟨-, -, -, -, -, -, -, -, -, -, -, -, -, hND, hSR, -, hU, hN, -⟩ := hG
  obtain ⟨sa, hsa⟩ := hSR _ _ _ hstr
  have hone : ∀ w ∈ zXws (zY k).cls ic E, w.before args s = true ∧ vx_ot w = true := by
    intro w hw
    have g := List.all_eq_true.mp hall w hw
    simp only [Bool.and_eq_true, Bool.or_eq_true] at g
    obtain ⟨⟨g1, g2⟩, g3⟩ := g
    refine ⟨?_, g3⟩
    rcases g2 with g2 | g2
    · exact hws w (List.mem_filter.mpr ⟨List.contains_iff_mem.mp g1, g2⟩)
    · exact zND_use g2 (hND w (List.mem_filter.mpr ⟨List.contains_iff_mem.mp g1, g2⟩))
  have hot : ∀ w ∈ zW, vx_ot w = true := fun w hw => by unfold vx_ot; rw [zW_good hw]; simp
  have hgood : ∀ w ∈ Cond.classLink (zY k).cls ik (zEx E) :: Cond.initialized (zEx E) :: zXws (zY k).cls ic E, vx_ot w = true := by
    intro w hw
    rcases List.mem_cons.mp hw with rfl | hw
    · exact hot _ hcl
    · rcases List.mem_cons.mp hw with rfl | hw
      · exact hot _ hini
      · exact (hone w hw).2
  have hsum := zcat_sum (ρ := ρ) st
  have hsize : lsC.size = c.maxLocals := by rw [hL.1, hln, hml]
  have hout : ∀ (q : Nat) (x : ExceptionTableEntry), x ∈ c.exceptionTable.toList → covers x q = false := by
    intro q x hx
    rw [htb] at hx
    unfold zTb at hx
    rw [hH] at hx
    cases hx
  have hXC : ∀ t : State, s.vm.Alike t.vm → H.size ≤ t.heap.size → (∀ q : Nat, q < H.size → t.heap[q]? = H[q]?) → XC (zEx E) s t := fun t ha h1 h2 => hend.2 E rfl ρ t Ext.rf ((hR.grow h2).chg) (zF_of' hS h1 h2) ha
  by_cases h4 : E = 4
  · subst h4
    unfold zXws at hone hgood
    rw [if_pos rfl] at hone hgood
    rcases hz with ⟨-, d4, d6, d9⟩ | ⟨-, d4, d7, d10⟩
    · refine zmake hx hb hl hown (zx_fit 4 (by decide)) (by decide +kernel) (fun n hn => by simp only [List.mem_cons, List.not_mem_nil, or_false] at hn; subst hn; decide +kernel) (by decide +kernel) (by decide +kernel) (by decide +kernel) (by decide +kernel) (hws _ hcl) (hws _ hini) hsa (fun w hw => (hone w hw).1) hgood hU hN hS hsize d0 d3 d4 d6 (by simp only [List.length_cons, List.length_nil]; omega) (by simp only [List.length_cons, List.length_nil]; omega) (by omega) (by omega) ?_
      intro q H1 ce g1 g2 g3 g4 g5
      exact zathrow hx hb d9 (vx_out (fun x hx => hout _ x hx) hlk g1 g2 g3 (fun t ht ha => hXC t ha (by rw [ht]; exact g4) (by rw [ht]; exact g5)) hS.2.2 hc.1 hc.2)
    · refine zmakeW hx hb hl hown (zx_fit 4 (by decide)) (by decide +kernel) (fun n hn => by simp only [List.mem_cons, List.not_mem_nil, or_false] at hn; subst hn; decide +kernel) (by decide +kernel) (by decide +kernel) (by decide +kernel) (by decide +kernel) (hws _ hcl) (hws _ hini) hsa (fun w hw => (hone w hw).1) hgood hU hN hS hsize d0 d3 d4 d7 (by simp only [List.length_cons, List.length_nil]; omega) (by simp only [List.length_cons, List.length_nil]; omega) (by omega) (by omega) ?_
      intro q H1 ce g1 g2 g3 g4 g5
      exact zathrow hx hb d10 (vx_out (fun x hx => hout _ x hx) hlk g1 g2 g3 (fun t ht ha => hXC t ha (by rw [ht]; exact g4) (by rw [ht]; exact g5)) hS.2.2 hc.1 hc.2)
  · unfold zXws at hone hgood
    rw [if_neg h4] at hone hgood
    rcases hz with ⟨-, d4, d6, d9⟩ | ⟨-, d4, d7, d10⟩
    · exact vx_throwS hx hb hl hown (zx_fit E hE5) zNm_fit (hws _ hcl) (hws _ hini) hsa (fun w hw => (hone w hw).1) hgood hU hN hS hsize d0 d3 d4 d6 d9 (fun x hx => hout _ x hx) (by simp only [zNm, List.length_cons, List.length_nil]; omega) (by simp only [zNm, List.length_cons, List.length_nil]; omega) (by omega) (by omega) hlk hXC hS.2.2 hc.1 hc.2
    · exact vx_throwSW hx hb hl hown (zx_fit E hE5) zNm_fit (hws _ hcl) (hws _ hini) hsa (fun w hw => (hone w hw).1) hgood hU hN hS hsize d0 d3 d4 d7 d10 (fun x hx => hout _ x hx) (by simp only [zNm, List.length_cons, List.length_nil]; omega) (by simp only [zNm, List.length_cons, List.length_nil]; omega) (by omega) (by omega) hlk hXC hS.2.2 hc.1 hc.2
end ZM
theorem zcastE : ∀ E, E < 5 → lw_tbl.contains (.castable (zEx E) (zEx E)) = true := by decide +kernel

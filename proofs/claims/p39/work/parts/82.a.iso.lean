/-! a run depends on nothing but the cells that it can reach: places from 32 to 69 may hold anything, those from 70 on may be numbered d lower, the counters may stand higher -/
def sg (d a : Nat) : Nat := if a < 70 then a else a - d
def gdm (a : Nat) : Prop := a < 32 ∨ 70 ≤ a
def NGv (v : Value) : Prop := ∀ a, v = .ref a → gdm a
def NGl (ls : zL) : Prop := ∀ i v, lget ls i = some v → NGv v
def NGs (st : zS) : Prop := ∀ v ∈ st, NGv v
def lsg (d : Nat) (ls : zL) : zL := ls.map (Option.map (vmap (sg d)))
def SW (d a b : Nat) (h h' : zH) : Prop := d ≤ 38 ∧ 70 ≤ zn h ∧ zn h' + d = zn h ∧ zuc h' = zuc h + a ∧ zus h' = zus h + b ∧ ∀ x, gdm x → zk h' (sg d x) = zk h x ∧ zl h' (sg d x) = zl h x ∧ (∀ i, zm h' (sg d x) i = vmap (sg d) (zm h x i)) ∧ ∀ i, NGv (zm h x i)
theorem sg_inj {d x y : Nat} (hd : d ≤ 38) (hx : gdm x) (hy : gdm y) : sg d x = sg d y ↔ x = y := by
  unfold gdm at hx hy
  unfold sg
  constructor
  · intro h
    split at h <;> split at h <;> omega
  · rintro rfl
    rfl
theorem sg_lo {d x : Nat} (hx : x < 70) : sg d x = x := if_pos hx
theorem sg_hi {d x : Nat} (hx : 70 ≤ x) : sg d x = x - d := if_neg (by omega)
theorem sg_z {d x z : Nat} (hd : d ≤ 38) (hz : z < 32) (hx : gdm x) : sg d x = z ↔ x = z := by
  rw [← sg_inj hd hx (Or.inl hz), sg_lo (show z < 70 by omega)]
theorem NGv_int {x : Int32} : NGv (.int x) ↔ True := iff_true_intro fun _ h => nomatch h
theorem NGv_long {x : Int64} : NGv (.long x) ↔ True := iff_true_intro fun _ h => nomatch h
theorem NGv_float {x : UInt32} : NGv (.float x) ↔ True := iff_true_intro fun _ h => nomatch h
theorem NGv_double {x : UInt64} : NGv (.double x) ↔ True := iff_true_intro fun _ h => nomatch h
theorem NGv_null : NGv .null ↔ True := iff_true_intro fun _ h => nomatch h
theorem NGv_ref {a : Nat} : NGv (.ref a) ↔ gdm a := ⟨fun h => h a rfl, fun h _ e => by cases e; exact h⟩
theorem NGs_nil : NGs [] ↔ True := iff_true_intro fun _ h => absurd h List.not_mem_nil
theorem NGs_cons {v : Value} {st : zS} : NGs (v :: st) ↔ NGv v ∧ NGs st := ⟨fun h => ⟨h v List.mem_cons_self, fun w hw => h w (List.mem_cons_of_mem _ hw)⟩, fun h w hw => (List.mem_cons.mp hw).elim (fun e => e ▸ h.1) (h.2 w)⟩
theorem NGl.put {i : Nat} {v : Value} {ls l' : zL} (h : NGl ls) (hv : NGv v) (hl : lst ls i v = some l') : NGl l' := by
  intro j w hj
  rw [(lst_spec hl).2.2.1 j] at hj
  by_cases e : j = i
  · rw [if_pos e] at hj
    cases hj
    exact hv
  · rw [if_neg e] at hj
    exact h j w hj
theorem NGl.put2 {i : Nat} {v : Value} {ls l' : zL} (h : NGl ls) (hv : NGv v) (hl : lst2 ls i v = some l') : NGl l' := by
  intro j w hj
  rw [(lst2_spec hl).2.2.1 j] at hj
  by_cases e : j = i
  · rw [if_pos e] at hj
    cases hj
    exact hv
  · rw [if_neg e] at hj
    by_cases e2 : j = i + 1
    · rw [if_pos e2] at hj
      cases hj
    · rw [if_neg e2] at hj
      exact h j w hj
section SWL
variable {d : Nat}
theorem vmap_r {a : Nat} : vmap (sg d) (.ref a) = .ref (sg d a) := rfl
theorem vmap_i {x : Int32} : vmap (sg d) (.int x) = .int x := rfl
theorem zso_sg {v : Value} : zso (vmap (sg d) v) = zso v := by cases v <;> rfl
theorem zc1_sg {v : Value} : zc1 (vmap (sg d) v) = zc1 v := by cases v <;> rfl
theorem zfit_sg {t : Nat} {v : Value} : zfit t (vmap (sg d) v) = zfit t v := by cases v <;> rfl
theorem lc2_sg {x : Option Value} : lc2 (x.map (vmap (sg d))) = lc2 x := by
  cases x with
  | none => rfl
  | some v => cases v <;> rfl
theorem vmap_def {t : Nat} : vmap (sg d) (zdef t) = zdef t := by
  unfold zdef
  split <;> first | rfl | skip
  split <;> first | rfl | skip
  split <;> first | rfl | skip
  split <;> rfl
theorem NGv_def {t : Nat} : NGv (zdef t) := by
  intro a e
  unfold zdef at e
  repeat (split at e <;> first | contradiction | skip)
theorem lget_sg : ∀ {ls : zL} {n : Nat}, lget (lsg d ls) n = (lget ls n).map (vmap (sg d))
  | [], _ => rfl
  | a :: _, 0 => rfl
  | a :: l, n + 1 => lget_sg (ls := l) (n := n)
theorem lst_sg {v : Value} : ∀ {ls : zL} {n : Nat}, lst (lsg d ls) n (vmap (sg d) v) = (lst ls n v).map (lsg d)
  | [], _ => rfl
  | a :: _, 0 => rfl
  | a :: l, n + 1 => by
    have e : lst (lsg d (a :: l)) (n + 1) (vmap (sg d) v) = if n = 0 ∧ lc2 (a.map (vmap (sg d))) = true then none else (lst (lsg d l) n (vmap (sg d) v)).map (fun l' => a.map (vmap (sg d)) :: l') := rfl
    have e2 : lst (a :: l) (n + 1) v = if n = 0 ∧ lc2 a = true then none else (lst l n v).map (fun l' => a :: l') := rfl
    rw [e, lst_sg (ls := l) (n := n), lc2_sg, e2]
    split
    · rfl
    · cases lst l n v <;> rfl
theorem lst2_sg {v : Value} : ∀ {ls : zL} {n : Nat}, lst2 (lsg d ls) n (vmap (sg d) v) = (lst2 ls n v).map (lsg d)
  | [], _ => rfl
  | [_], 0 => rfl
  | [a], n + 1 => by
    have e : lst2 (lsg d [a]) (n + 1) (vmap (sg d) v) = if n = 0 ∧ lc2 (a.map (vmap (sg d))) = true then none else (lst2 (lsg d []) n (vmap (sg d) v)).map (fun l' => a.map (vmap (sg d)) :: l') := rfl
    rw [e, lst2_sg (ls := []) (n := n), lc2_sg]
    have e2 : lst2 [a] (n + 1) v = if n = 0 ∧ lc2 a = true then none else (lst2 [] n v).map (fun l' => a :: l') := rfl
    rw [e2]
    split
    · rfl
    · cases lst2 [] n v <;> rfl
  | a :: b :: l, 0 => rfl
  | a :: b :: l, n + 1 => by
    have e : lst2 (lsg d (a :: b :: l)) (n + 1) (vmap (sg d) v) = if n = 0 ∧ lc2 (a.map (vmap (sg d))) = true then none else (lst2 (lsg d (b :: l)) n (vmap (sg d) v)).map (fun l' => a.map (vmap (sg d)) :: l') := rfl
    rw [e, lst2_sg (ls := b :: l) (n := n), lc2_sg]
    have e2 : lst2 (a :: b :: l) (n + 1) v = if n = 0 ∧ lc2 a = true then none else (lst2 (b :: l) n v).map (fun l' => a :: l') := rfl
    rw [e2]
    split
    · rfl
    · cases lst2 (b :: l) n v <;> rfl
theorem lclr_sg : ∀ {ls : zL} {n : Nat}, lclr (lsg d ls) n = lsg d (lclr ls n)
  | [], _ => rfl
  | _ :: _, 0 => rfl
  | a :: l, n + 1 => by
    have e : lclr (lsg d (a :: l)) (n + 1) = (if n = 0 ∧ lc2 (a.map (vmap (sg d))) = true then none else a.map (vmap (sg d))) :: lclr (lsg d l) n := rfl
    have e2 : lclr (a :: l) (n + 1) = (if n = 0 ∧ lc2 a = true then none else a) :: lclr l n := rfl
    rw [e, e2, lc2_sg, lclr_sg (ls := l) (n := n)]
    unfold lsg
    rw [List.map_cons]
    split <;> rfl
theorem zentry_sg : ∀ {n : Nat} {as : List Value}, zentry n (as.map (vmap (sg d))) = lsg d (zentry n as)
  | 0, _ => rfl
  | n + 1, [] => congrArg (fun l => none :: l) (zentry_sg (n := n) (as := []))
  | n + 1, v :: r => congrArg (fun l => some (vmap (sg d) v) :: l) (zentry_sg (n := n) (as := r))
theorem zall_sg {st : zS} : (st.map (vmap (sg d))).all zc1 = st.all zc1 := by
  induction st with
  | nil => rfl
  | cons v r ih => simp only [List.map_cons, List.all_cons, zc1_sg, ih]
end SWL
section SWH
variable {d a0 b0 : Nat} {h h' : zH}
theorem SW.nn (R : SW d a0 b0 h h') : sg d (zn h) = zn h' := by
  obtain ⟨h1, h2, h3, -⟩ := R
  rw [sg_hi h2]
  omega
theorem SW.gn (R : SW d a0 b0 h h') : gdm (zn h) := Or.inr R.2.1
theorem SW.at (R : SW d a0 b0 h h') {x : Nat} (hx : gdm x) : zk h' (sg d x) = zk h x ∧ zl h' (sg d x) = zl h x ∧ (∀ i, zm h' (sg d x) i = vmap (sg d) (zm h x i)) ∧ ∀ i, NGv (zm h x i) := R.2.2.2.2.2 x hx
theorem SW.put (R : SW d a0 b0 h h') {x i : Nat} {v : Value} (hx : gdm x) (hv : NGv v) : SW d a0 b0 (zput h x i v) (zput h' (sg d x) i (vmap (sg d) v)) := by
  obtain ⟨h1, h2, h3, h4, h5, h6⟩ := R
  refine ⟨h1, h2, h3, h4, h5, fun y hy => ?_⟩
  obtain ⟨g1, g2, g3, g4⟩ := h6 y hy
  refine ⟨g1, g2, fun j => ?_, fun j => ?_⟩
  · show (if sg d y = sg d x ∧ j = i then vmap (sg d) v else zm h' (sg d y) j) = vmap (sg d) (if y = x ∧ j = i then v else zm h y j)
    rw [g3]
    simp only [sg_inj h1 hy hx]
    split <;> rfl
  · show NGv (if y = x ∧ j = i then v else zm h y j)
    split
    · exact hv
    · exact g4 j
theorem SW.fil (R : SW d a0 b0 h h') {x : Nat} {f f' : Nat → Value} (hx : gdm x) (hf : ∀ j, f' j = vmap (sg d) (f j)) (hv : ∀ j, NGv (f j)) : SW d a0 b0 (zfil h x f) (zfil h' (sg d x) f') := by
  obtain ⟨h1, h2, h3, h4, h5, h6⟩ := R
  refine ⟨h1, h2, h3, h4, h5, fun y hy => ?_⟩
  obtain ⟨g1, g2, g3, g4⟩ := h6 y hy
  refine ⟨g1, g2, fun j => ?_, fun j => ?_⟩
  · show (if sg d y = sg d x then f' j else zm h' (sg d y) j) = vmap (sg d) (if y = x then f j else zm h y j)
    rw [g3, hf]
    simp only [sg_inj h1 hy hx]
    split <;> rfl
  · show NGv (if y = x then f j else zm h y j)
    split
    · exact hv j
    · exact g4 j
theorem SW.new (R : SW d a0 b0 h h') {k n : Nat} {f f' : Nat → Value} (hf : ∀ j, f' j = vmap (sg d) (f j)) (hv : ∀ j, NGv (f j)) : SW d a0 b0 (znew h k n f) (znew h' k n f') := by
  have hn := R.nn
  have hg := R.gn
  obtain ⟨h1, h2, h3, h4, h5, h6⟩ := R
  have z1 : zn (znew h k n f) = zn h + 1 := rfl
  have z2 : zn (znew h' k n f') = zn h' + 1 := rfl
  refine ⟨h1, by omega, by omega, ?_, ?_, fun y hy => ?_⟩
  · show h'.1.2.1 + 1 = h.1.2.1 + 1 + a0
    have h4 : h'.1.2.1 = h.1.2.1 + a0 := h4
    omega
  · show h'.1.2.2 + n = h.1.2.2 + n + b0
    have h5 : h'.1.2.2 = h.1.2.2 + b0 := h5
    omega
  · obtain ⟨g1, g2, g3, g4⟩ := h6 y hy
    have hi : sg d y = zn h' ↔ y = zn h := by rw [← hn]; exact sg_inj h1 hy hg
    refine ⟨?_, ?_, fun j => ?_, fun j => ?_⟩
    · show (if sg d y = zn h' then k else zk h' (sg d y)) = if y = zn h then k else zk h y
      rw [g1]
      simp only [hi]
    · show (if sg d y = zn h' then n else zl h' (sg d y)) = if y = zn h then n else zl h y
      rw [g2]
      simp only [hi]
    · show (if sg d y = zn h' then f' j else zm h' (sg d y) j) = vmap (sg d) (if y = zn h then f j else zm h y j)
      rw [g3, hf]
      simp only [hi]
      split <;> rfl
    · show NGv (if y = zn h then f j else zm h y j)
      split
      · exact hv j
      · exact g4 j
theorem SW.news (R : SW d a0 b0 h h') {kd w n : Nat} {v : Value} (hf : vmap (sg d) v = v) (hv : NGv v) : SW d a0 b0 (znews h kd w v n) (znews h' kd w v n) := by
  obtain ⟨h1, h2, h3, h4, h5, h6⟩ := R
  have z1 : zn (znews h kd w v n) = zn h + n := rfl
  have z2 : zn (znews h' kd w v n) = zn h' + n := rfl
  refine ⟨h1, by omega, by omega, ?_, ?_, fun y hy => ?_⟩
  · show h'.1.2.1 + n = h.1.2.1 + n + a0
    have h4 : h'.1.2.1 = h.1.2.1 + a0 := h4
    omega
  · show h'.1.2.2 + n * w = h.1.2.2 + n * w + b0
    have h5 : h'.1.2.2 = h.1.2.2 + b0 := h5
    omega
  · obtain ⟨g1, g2, g3, g4⟩ := h6 y hy
    have hi : (zn h' ≤ sg d y ∧ sg d y < zn h' + n) ↔ (zn h ≤ y ∧ y < zn h + n) := by
      unfold gdm at hy
      unfold sg
      split <;> omega
    refine ⟨?_, ?_, fun j => ?_, fun j => ?_⟩
    · show (if zn h' ≤ sg d y ∧ sg d y < zn h' + n then kd else zk h' (sg d y)) = if zn h ≤ y ∧ y < zn h + n then kd else zk h y
      rw [g1]
      simp only [hi]
    · show (if zn h' ≤ sg d y ∧ sg d y < zn h' + n then w else zl h' (sg d y)) = if zn h ≤ y ∧ y < zn h + n then w else zl h y
      rw [g2]
      simp only [hi]
    · show (if zn h' ≤ sg d y ∧ sg d y < zn h' + n then v else zm h' (sg d y) j) = vmap (sg d) (if zn h ≤ y ∧ y < zn h + n then v else zm h y j)
      rw [g3]
      simp only [hi]
      split
      · exact hf.symm
      · rfl
    · show NGv (if zn h ≤ y ∧ y < zn h + n then v else zm h y j)
      split
      · exact hv
      · exact g4 j
theorem SW.chg (R : SW d a0 b0 h h') {c n : Nat} : SW d a0 b0 (zchg h c n) (zchg h' c n) := by
  obtain ⟨h1, h2, h3, h4, h5, h6⟩ := R
  refine ⟨h1, h2, h3, ?_, ?_, h6⟩
  · show h'.1.2.1 + c = h.1.2.1 + c + a0
    have h4 : h'.1.2.1 = h.1.2.1 + a0 := h4
    omega
  · show h'.1.2.2 + n = h.1.2.2 + n + b0
    have h5 : h'.1.2.2 = h.1.2.2 + b0 := h5
    omega
theorem SW.obj (R : SW d a0 b0 h h') {v : Value} (hv : NGv v) : zobj h' (vmap (sg d) v) = zobj h v := by
  cases v <;> try rfl
  rename_i q
  show decide (zk h' (sg d q) < 20) = decide (zk h q < 20)
  rw [(R.at (NGv_ref.mp hv)).1]
theorem SW.inn (R : SW d a0 b0 h h') {kd x : Nat} {i : Int32} (hx : gdm x) : zin h' kd (sg d x) i ↔ zin h kd x i := by
  obtain ⟨g1, g2, -⟩ := R.at hx
  unfold zin
  rw [g1, g2]
end SWH


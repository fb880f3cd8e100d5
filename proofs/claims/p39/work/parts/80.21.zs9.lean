/-! a step that stays in the method, on the machine -/
/-- what holds of the cells at any time, the kinds too -/
def zINV (L : Nat) (xs : Nat → Int32) (h : zH) : Prop := ZI L xs h ∧ (∀ a, zk h a < 20 → zk h a < 8) ∧ ∀ a, zk h a < 40 → zk h a < 29 ∨ a = 0 ∨ a = 1
theorem zINV.ok {L : Nat} {xs : Nat → Int32} {h : zH} (hI : zINV L xs h) : ∀ a, zk h a < 20 → zcl[zk h a]? = some (zFq (zk h a)) := by
  intro a ha
  have := hI.2.1 a ha
  generalize zk h a = q at this
  match q, this with
  | 0, _ => rfl
  | 1, _ => rfl
  | 2, _ => rfl
  | 3, _ => rfl
  | 4, _ => rfl
  | 5, _ => rfl
  | 6, _ => rfl
  | 7, _ => rfl
theorem zcat_le : ∀ (st : zS), (st.map fun v => v.category).sum ≤ 2 * st.length
  | [] => Nat.le_refl 0
  | v :: st => by
    have h1 := zcat_le st
    have h2 : v.category ≤ 2 := by cases v <;> simp [Value.category]
    simp only [List.map_cons, List.sum_cons, List.length_cons]
    omega
theorem zuc_new {h : zH} {q w : Nat} {f : Nat → Value} : zuc (znew h q w f) - zuc h = 1 := by
  show h.1.2.1 + 1 - h.1.2.1 = 1
  omega
theorem zus_new {h : zH} {q w : Nat} {f : Nat → Value} : zus (znew h q w f) - zus h = w := by
  show h.1.2.2 + w - h.1.2.2 = w
  omega
section ZA
variable {p : Program} {l : Launch} {e : Env} {R : Room} {s : State} {m : MethodId} {args : Array Value} {below : List Frame} {meth : Method} {c : Code} {Q : State → Prop}
variable {k pc nx tg : Nat} {aux : List Nat} {D : va_G} {cs : Nat → ClassId} {A : Nat → Prop} {b e1 mi L : Nat} {xs : Nat → Int32} {ρ : Nat → Nat} {ls : zL} {st : zS} {h : zH} {lsC : Array Slot} {H : Heap} {locs : List Loc} {cells slots : Nat}
theorem zinj (hI : ZI L xs h) (hR : zHR D cs A ρ h H) (hA : ¬ A (ρ 1)) {x y : Nat} (hz : zapt x y) (hx : x < zn h) (hy : y < zn h) (e : ρ x = ρ y) : x = y := by
  have inA : ∀ z, 3 ≤ z → z < zn h → A (ρ z) := fun z z3 zn => hR.2.2 (z - 3) _ (zws_get z3 zn)
  obtain ⟨z1, z2, z3, z4⟩ := hz
  by_cases x3 : 3 ≤ x
  · by_cases y3 : 3 ≤ y
    · have := hR.2.1 (x - 3) (y - 3) _ _ (zws_get x3 hx) (zws_get y3 hy) e
      omega
    · have hAx := inA x x3 hx
      rw [e, show y = 1 by omega] at hAx
      exact absurd hAx hA
  · by_cases y3 : 3 ≤ y
    · have hAy := inA y y3 hy
      rw [← e, show x = 1 by omega] at hAy
      exact absurd hAy hA
    · omega
theorem zown_eq (k : Nat) (hk : k < 244) : zOwn.getD (zOI k) "" = (zY k).cls := by
  have h : (List.range 244).all (fun k => zOwn.getD (zOI k) "" == (zY k).cls) = true := by decide +kernel
  exact eq_of_beq (List.all_eq_true.mp h k (List.mem_range.mpr hk))

set_option maxHeartbeats 2000000 in
theorem zpure_sound {i : Instr} {r : Nat × zL × zS × zH} (C : zCtx k D cs A b e1 mi L xs p R s m args meth c) (hk : k < 244) (hI0 : zINV L xs h) (hρ : ρ 0 = b ∧ ρ 1 = e1 ∧ ρ 2 = mi) (hA : ¬ A (ρ 1)) (hz : zok0 k pc i nx tg aux) (hp : zpure i nx tg aux ls st h = some r) (hL : zLR ρ ls lsC) (hml : c.maxLocals = ls.length) (hlk : zLOK (zn h) ls) (hsk : zSOK (zn h) st) (hR : zHR D cs A ρ h H) (hS : va_S A s.heap H locs) (hroom : cells + (zuc r.2.2.2 - zuc h) ≤ R.cells ∧ slots + (zus r.2.2.2 - zus h) ≤ R.slots)
    (kk : zKg p l e R s m args below meth c Q D cs A ρ h cells slots r) : zWg p l e R s m args below meth c Q ρ pc lsC st H locs cells slots := by
  have hI := hI0.1
  have hok := hI0.ok
  have hown := zown_eq k hk
  have hcs : cells ≤ R.cells ∧ slots ≤ R.slots := ⟨by omega, by omega⟩
  have same : r.2.2.2 = h → zKo p l e R s m args below meth c Q ρ H locs cells slots r := fun hh => zKg.same kk hh hR hS
  have tF : ∀ {x}, zFTab.contains x = true → zFOK (zOwn.getD x.1 "") x.2.1 x.2.2.1 x.2.2.2 := fun q => zFTab_ok _ (List.contains_iff_mem.mp q)
  have tN : ∀ {x}, zNTab.contains x = true → zNOK (zOwn.getD x.1 "") x.2.1 x.2.2 := fun q => zNTab_ok _ (List.contains_iff_mem.mp q)
  have tK : ∀ {x}, zKTab.contains x = true → zKOK (zOwn.getD x.1 "") x.2.1 x.2.2 := fun q => zKTab_ok _ (List.contains_iff_mem.mp q)
  have tL : ∀ {x}, zLTab.contains x = true → zCOK (zOwn.getD x.1 "") x.2.1 x.2.2.1 x.2.2.2 := fun q => zLTab_ok _ (List.contains_iff_mem.mp q)
  have tS : ∀ {x}, zSTab.contains x = true → zSw (zOwn.getD x.1 "") x.2.1 x.2.2 ∈ zW := fun q => zSTab_ok _ (List.contains_iff_mem.mp q)
  cases i
  case iload n =>
    obtain ⟨hd, rfl, ht, ha⟩ := hz
    exact zs_iload C.1 C.2.1 hL hd hp (same (by obtain ⟨v, _, _, rfl⟩ := zp_lo hp; rfl))
  case iload_n n =>
    obtain ⟨hd, rfl, ht, ha⟩ := hz
    exact zs_iload_n C.1 C.2.1 hL hd hp (same (by obtain ⟨v, _, _, rfl⟩ := zp_lo hp; rfl))
  case lload n =>
    obtain ⟨hd, rfl, ht, ha⟩ := hz
    exact zs_lload C.1 C.2.1 hL hd hp (same (by obtain ⟨v, _, _, rfl⟩ := zp_lo hp; rfl))
  case lload_n n =>
    obtain ⟨hd, rfl, ht, ha⟩ := hz
    exact zs_lload_n C.1 C.2.1 hL hd hp (same (by obtain ⟨v, _, _, rfl⟩ := zp_lo hp; rfl))
  case fload n =>
    obtain ⟨hd, rfl, ht, ha⟩ := hz
    exact zs_fload C.1 C.2.1 hL hd hp (same (by obtain ⟨v, _, _, rfl⟩ := zp_lo hp; rfl))
  case fload_n n =>
    obtain ⟨hd, rfl, ht, ha⟩ := hz
    exact zs_fload_n C.1 C.2.1 hL hd hp (same (by obtain ⟨v, _, _, rfl⟩ := zp_lo hp; rfl))
  case aload n =>
    obtain ⟨hd, rfl, ht, ha⟩ := hz
    exact zs_aload C.1 C.2.1 hL hd hp (same (by obtain ⟨v, _, _, rfl⟩ := zp_lo hp; rfl))
  case aload_n n =>
    obtain ⟨hd, rfl, ht, ha⟩ := hz
    exact zs_aload_n C.1 C.2.1 hL hd hp (same (by obtain ⟨v, _, _, rfl⟩ := zp_lo hp; rfl))
  case istore n =>
    obtain ⟨hd, rfl, ht, ha⟩ := hz
    exact zs_istore C.1 C.2.1 hL hd hp (same (by obtain ⟨v, _, _, _, _, _, rfl⟩ := zp_sto hp; rfl))
  case istore_n n =>
    obtain ⟨hd, rfl, ht, ha⟩ := hz
    exact zs_istore_n C.1 C.2.1 hL hd hp (same (by obtain ⟨v, _, _, _, _, _, rfl⟩ := zp_sto hp; rfl))
  case fstore n =>
    obtain ⟨hd, rfl, ht, ha⟩ := hz
    exact zs_fstore C.1 C.2.1 hL hd hp (same (by obtain ⟨v, _, _, _, _, _, rfl⟩ := zp_sto hp; rfl))
  case fstore_n n =>
    obtain ⟨hd, rfl, ht, ha⟩ := hz
    exact zs_fstore_n C.1 C.2.1 hL hd hp (same (by obtain ⟨v, _, _, _, _, _, rfl⟩ := zp_sto hp; rfl))
  case astore n =>
    obtain ⟨hd, rfl, ht, ha⟩ := hz
    exact zs_astore C.1 C.2.1 hL hd hp (same (by obtain ⟨v, _, _, _, _, _, rfl⟩ := zp_sto hp; rfl))
  case astore_n n =>
    obtain ⟨hd, rfl, ht, ha⟩ := hz
    exact zs_astore_n C.1 C.2.1 hL hd hp (same (by obtain ⟨v, _, _, _, _, _, rfl⟩ := zp_sto hp; rfl))
  case lstore n =>
    obtain ⟨hd, rfl, ht, ha⟩ := hz
    exact zs_lstore C.1 C.2.1 hL hd hp (same (by obtain ⟨v, _, _, _, _, _, rfl⟩ := zp_sto2 hp; rfl))
  case lstore_n n =>
    obtain ⟨hd, rfl, ht, ha⟩ := hz
    exact zs_lstore_n C.1 C.2.1 hL hd hp (same (by obtain ⟨v, _, _, _, _, _, rfl⟩ := zp_sto2 hp; rfl))
  case iconst n =>
    obtain ⟨hd, rfl, ht, ha⟩ := hz
    exact zs_iconst C.1 C.2.1 hL hd hp (same (by cases hp; rfl))
  case lconst n =>
    obtain ⟨hd, rfl, ht, ha⟩ := hz
    exact zs_lconst C.1 C.2.1 hL hd hp (same (by cases hp; rfl))
  case aconst_null =>
    obtain ⟨hd, rfl, ht, ha⟩ := hz
    exact zs_aconst_null C.1 C.2.1 hL hd hp (same (by cases hp; rfl))
  case bipush n =>
    obtain ⟨hd, rfl, ht, ha⟩ := hz
    exact zs_bipush C.1 C.2.1 hL (of_decide_eq_true ha) hd hp (same (by cases hp; rfl))
  case sipush n =>
    obtain ⟨hd, rfl, ht, ha⟩ := hz
    exact zs_sipush C.1 C.2.1 hL (of_decide_eq_true ha) hd hp (same (by cases hp; rfl))
  case fconst n =>
    obtain ⟨hd, rfl, ht, ha⟩ := hz
    exact zs_fconst C.1 C.2.1 hL hd hp (same (by simp only [zpure] at hp; split at hp <;> first | (cases hp; rfl) | (split at hp <;> (cases hp; rfl))))
  case iadd =>
    obtain ⟨hd, rfl, ht, ha⟩ := hz
    exact zs_iadd C.1 C.2.1 hL hd hp (same (by simp only [zpure] at hp; split at hp <;> first | contradiction | (cases hp; rfl)))
  case isub =>
    obtain ⟨hd, rfl, ht, ha⟩ := hz
    exact zs_isub C.1 C.2.1 hL hd hp (same (by simp only [zpure] at hp; split at hp <;> first | contradiction | (cases hp; rfl)))
  case imul =>
    obtain ⟨hd, rfl, ht, ha⟩ := hz
    exact zs_imul C.1 C.2.1 hL hd hp (same (by simp only [zpure] at hp; split at hp <;> first | contradiction | (cases hp; rfl)))
  case iand =>
    obtain ⟨hd, rfl, ht, ha⟩ := hz
    exact zs_iand C.1 C.2.1 hL hd hp (same (by simp only [zpure] at hp; split at hp <;> first | contradiction | (cases hp; rfl)))
  case ior =>
    obtain ⟨hd, rfl, ht, ha⟩ := hz
    exact zs_ior C.1 C.2.1 hL hd hp (same (by simp only [zpure] at hp; split at hp <;> first | contradiction | (cases hp; rfl)))
  case ixor =>
    obtain ⟨hd, rfl, ht, ha⟩ := hz
    exact zs_ixor C.1 C.2.1 hL hd hp (same (by simp only [zpure] at hp; split at hp <;> first | contradiction | (cases hp; rfl)))
  case ishl =>
    obtain ⟨hd, rfl, ht, ha⟩ := hz
    exact zs_ishl C.1 C.2.1 hL hd hp (same (by simp only [zpure] at hp; split at hp <;> first | contradiction | (cases hp; rfl)))
  case ishr =>
    obtain ⟨hd, rfl, ht, ha⟩ := hz
    exact zs_ishr C.1 C.2.1 hL hd hp (same (by simp only [zpure] at hp; split at hp <;> first | contradiction | (cases hp; rfl)))
  case iushr =>
    obtain ⟨hd, rfl, ht, ha⟩ := hz
    exact zs_iushr C.1 C.2.1 hL hd hp (same (by simp only [zpure] at hp; split at hp <;> first | contradiction | (cases hp; rfl)))
  case ineg =>
    obtain ⟨hd, rfl, ht, ha⟩ := hz
    exact zs_ineg C.1 C.2.1 hL hd hp (same (by simp only [zpure] at hp; split at hp <;> first | contradiction | (cases hp; rfl)))
  case ladd =>
    obtain ⟨hd, rfl, ht, ha⟩ := hz
    exact zs_ladd C.1 C.2.1 hL hd hp (same (by simp only [zpure] at hp; split at hp <;> first | contradiction | (cases hp; rfl)))
  case lcmp =>
    obtain ⟨hd, rfl, ht, ha⟩ := hz
    exact zs_lcmp C.1 C.2.1 hL hd hp (same (by simp only [zpure] at hp; split at hp <;> first | contradiction | (cases hp; rfl)))
  case lmul =>
    obtain ⟨hd, rfl, ht, ha⟩ := hz
    exact zs_lmul C.1 C.2.1 hL hd hp (same (by simp only [zpure] at hp; split at hp <;> first | contradiction | (cases hp; rfl)))
  case i2l =>
    obtain ⟨hd, rfl, ht, ha⟩ := hz
    exact zs_i2l C.1 C.2.1 hL hd hp (same (by simp only [zpure] at hp; split at hp <;> first | contradiction | (cases hp; rfl)))
  case i2b =>
    obtain ⟨hd, rfl, ht, ha⟩ := hz
    exact zs_i2b C.1 C.2.1 hL hd hp (same (by simp only [zpure] at hp; split at hp <;> first | contradiction | (cases hp; rfl)))
  case i2c =>
    obtain ⟨hd, rfl, ht, ha⟩ := hz
    exact zs_i2c C.1 C.2.1 hL hd hp (same (by simp only [zpure] at hp; split at hp <;> first | contradiction | (cases hp; rfl)))
  case i2f =>
    obtain ⟨hd, rfl, ht, ha⟩ := hz
    exact zs_i2f C.1 C.2.1 hL hd hp (same (by simp only [zpure] at hp; split at hp <;> first | contradiction | (cases hp; rfl)))
  case f2i =>
    obtain ⟨hd, rfl, ht, ha⟩ := hz
    exact zs_f2i C.1 C.2.1 hL hd hp (same (by simp only [zpure] at hp; split at hp <;> first | contradiction | (cases hp; rfl)))
  case fneg =>
    obtain ⟨hd, rfl, ht, ha⟩ := hz
    exact zs_fneg C.1 C.2.1 hL hd hp (same (by simp only [zpure] at hp; split at hp <;> first | contradiction | (cases hp; rfl)))
  case idiv =>
    obtain ⟨hd, rfl, ht, ha⟩ := hz
    exact zs_idiv C.1 C.2.1 hL hd hp (same (by simp only [zpure] at hp; split at hp <;> first | contradiction | (split at hp <;> first | contradiction | (cases hp; rfl))))
  case irem =>
    obtain ⟨hd, rfl, ht, ha⟩ := hz
    exact zs_irem C.1 C.2.1 hL hd hp (same (by simp only [zpure] at hp; split at hp <;> first | contradiction | (split at hp <;> first | contradiction | (cases hp; rfl))))
  case fcmp o =>
    obtain ⟨hd, rfl, ht, ha⟩ := hz
    exact zs_fcmp C.1 C.2.1 hL hd hp (same (by simp only [zpure] at hp; split at hp <;> first | contradiction | (cases hp; rfl)))
  case dcmp o =>
    obtain ⟨hd, rfl, ht, ha⟩ := hz
    exact zs_dcmp C.1 C.2.1 hL hd hp (same (by simp only [zpure] at hp; split at hp <;> first | contradiction | (cases hp; rfl)))
  case fadd =>
    obtain ⟨hd, rfl, ht, ha⟩ := hz
    exact zs_fadd C.1 C.2.1 hL hd hp (same (by simp only [zpure] at hp; split at hp <;> first | contradiction | (split at hp <;> first | contradiction | (cases hp; rfl))))
  case fsub =>
    obtain ⟨hd, rfl, ht, ha⟩ := hz
    exact zs_fsub C.1 C.2.1 hL hd hp (same (by simp only [zpure] at hp; split at hp <;> first | contradiction | (split at hp <;> first | contradiction | (cases hp; rfl))))
  case fmul =>
    obtain ⟨hd, rfl, ht, ha⟩ := hz
    exact zs_fmul C.1 C.2.1 hL hd hp (same (by simp only [zpure] at hp; split at hp <;> first | contradiction | (split at hp <;> first | contradiction | (cases hp; rfl))))
  case fdiv =>
    obtain ⟨hd, rfl, ht, ha⟩ := hz
    exact zs_fdiv C.1 C.2.1 hL hd hp (same (by simp only [zpure] at hp; split at hp <;> first | contradiction | (split at hp <;> first | contradiction | (cases hp; rfl))))
  case f2d =>
    obtain ⟨hd, rfl, ht, ha⟩ := hz
    exact zs_f2d C.1 C.2.1 hL hd hp (same (by simp only [zpure] at hp; split at hp <;> first | contradiction | (split at hp <;> first | contradiction | (cases hp; rfl))))
  case pop =>
    obtain ⟨hd, rfl, ht, ha⟩ := hz
    exact zs_pop C.1 C.2.1 hL hd hp (same (by simp only [zpure] at hp; split at hp <;> first | contradiction | (split at hp <;> first | contradiction | (cases hp; rfl))))
  case dup =>
    obtain ⟨hd, rfl, ht, ha⟩ := hz
    exact zs_dup C.1 C.2.1 hL hd hp (same (by simp only [zpure] at hp; split at hp <;> first | contradiction | (split at hp <;> first | contradiction | (cases hp; rfl))))
  case dup_x1 =>
    obtain ⟨hd, rfl, ht, ha⟩ := hz
    exact zs_dup_x1 C.1 C.2.1 hL hd hp (same (by simp only [zpure] at hp; split at hp <;> first | contradiction | (split at hp <;> first | contradiction | (cases hp; rfl))))
  case dup2 =>
    obtain ⟨hd, rfl, ht, ha⟩ := hz
    exact zs_dup2 C.1 C.2.1 hL hd hp (same (by simp only [zpure] at hp; split at hp <;> first | contradiction | (split at hp <;> first | contradiction | (cases hp; rfl))))
  case goto o =>
    obtain ⟨hd, rfl, ht, ha⟩ := hz
    exact zs_goto C.1 C.2.1 hL (ht _ rfl) hd hp (same (by cases hp; rfl))
  case ifCond cnd o =>
    obtain ⟨hd, rfl, ht, ha⟩ := hz
    have hh : r.2.2.2 = h := by
      simp only [zpure] at hp
      split at hp <;> first | contradiction | skip
      cases cnd <;> simp only [zat] at hp <;> split at hp <;> (cases hp; rfl)
    cases cnd
    · exact zs_ifCond_eq C.1 C.2.1 hL (ht _ rfl) hd hp (same hh)
    · exact zs_ifCond_ne C.1 C.2.1 hL (ht _ rfl) hd hp (same hh)
    · exact zs_ifCond_lt C.1 C.2.1 hL (ht _ rfl) hd hp (same hh)
    · exact zs_ifCond_ge C.1 C.2.1 hL (ht _ rfl) hd hp (same hh)
    · exact zs_ifCond_gt C.1 C.2.1 hL (ht _ rfl) hd hp (same hh)
    · exact zs_ifCond_le C.1 C.2.1 hL (ht _ rfl) hd hp (same hh)
  case if_icmp cnd o =>
    obtain ⟨hd, rfl, ht, ha⟩ := hz
    have hh : r.2.2.2 = h := by
      simp only [zpure] at hp
      split at hp <;> first | contradiction | skip
      cases cnd <;> simp only [zat] at hp <;> split at hp <;> (cases hp; rfl)
    cases cnd
    · exact zs_if_icmp_eq C.1 C.2.1 hL (ht _ rfl) hd hp (same hh)
    · exact zs_if_icmp_ne C.1 C.2.1 hL (ht _ rfl) hd hp (same hh)
    · exact zs_if_icmp_lt C.1 C.2.1 hL (ht _ rfl) hd hp (same hh)
    · exact zs_if_icmp_ge C.1 C.2.1 hL (ht _ rfl) hd hp (same hh)
    · exact zs_if_icmp_gt C.1 C.2.1 hL (ht _ rfl) hd hp (same hh)
    · exact zs_if_icmp_le C.1 C.2.1 hL (ht _ rfl) hd hp (same hh)
  case if_acmp cnd o =>
    obtain ⟨hd, rfl, ht, ha⟩ := hz
    cases cnd <;> simp only [zpure] at hp <;> split at hp <;> first | contradiction | skip
    · rename_i y x st'
      have hx := hsk (.ref x) (by simp) x rfl
      have hy := hsk (.ref y) (by simp) y rfl
      by_cases q : x = y
      · refine zs_acmp (eq := true) C (fun _ => q) hL hR hS (ht _ rfl) hd ?_ kk
        simp only [q, if_true] at hp ⊢
        cases hp
        rfl
      · rw [if_neg q] at hp
        split at hp
        · rename_i hz
          refine zs_acmp (eq := true) C (zinj hI hR hA hz hx hy) hL hR hS (ht _ rfl) hd ?_ kk
          rw [if_neg q]
          cases hp
          rfl
        · cases hp
    · rename_i y x st'
      have hx := hsk (.ref x) (by simp) x rfl
      have hy := hsk (.ref y) (by simp) y rfl
      by_cases q : x = y
      · refine zs_acmp (eq := false) C (fun _ => q) hL hR hS (ht _ rfl) hd ?_ kk
        simp only [q, if_true] at hp ⊢
        cases hp
        rfl
      · rw [if_neg q] at hp
        split at hp
        · rename_i hz
          refine zs_acmp (eq := false) C (zinj hI hR hA hz hx hy) hL hR hS (ht _ rfl) hd ?_ kk
          rw [if_neg q]
          cases hp
          rfl
        · cases hp
  case iinc n z =>
    obtain ⟨hd, rfl, ht, ha⟩ := hz
    simp only [zpure] at hp
    split at hp <;> first | contradiction | skip
    rename_i x hg
    cases hl : lst ls n (.int (x + Int32.ofInt z)) with
    | none => rw [hl] at hp; cases hp
    | some l' =>
      rw [hl] at hp
      cases hp
      exact zs_iinc C hL hR hS hd hg hl kk
  case tableswitch dflt lo hi offs =>
    simp only [zpure] at hp
    split at hp <;> first | contradiction | skip
    exact zs_tableswitch C hL hR hS hz hp kk
  case getfield n =>
    obtain ⟨hd, rfl, ht, ha⟩ := hz
    simp only [zpure] at hp
    split at hp <;> first | contradiction | skip
    split at hp <;> first | contradiction | skip
    rename_i hq
    cases hp
    have hF := tF ha
    rw [hown] at hF
    exact zs_getfield (r := (0, ls, [], h)) C hI hF hL hR hS hd hq kk
  case putfield n =>
    obtain ⟨hd, rfl, ht, ha⟩ := hz
    simp only [zpure] at hp
    split at hp <;> first | contradiction | skip
    split at hp <;> first | contradiction | skip
    rename_i hq
    cases hp
    simp only [zaux, Bool.and_eq_true, Bool.or_eq_true, beq_iff_eq, Bool.not_eq_true'] at ha
    obtain ⟨⟨a1, a2⟩, a3⟩ := ha
    have hF := tF a1
    rw [hown] at hF
    exact zs_putfield C hI hF a2 (fun q => by rcases a3 with a3 | a3; · rw [q] at a3; cases a3
                                              · exact a3) hL hR hS hd hq.1 hq.2 kk
  case getstatic n =>
    obtain ⟨hd, rfl, ht, ha⟩ := hz
    simp only [zpure] at hp
    split at hp <;> first | contradiction | skip
    split at hp <;> first | contradiction | skip
    rename_i q
    subst q
    cases hp
    have hF := tS ha
    rw [hown] at hF
    exact zs_getstatic C hρ hF hL hR hS hd kk
  case new n =>
    obtain ⟨hd, rfl, ht, ha⟩ := hz
    simp only [zpure] at hp
    split at hp <;> first | contradiction | skip
    cases hp
    simp only [zaux, Bool.and_eq_true, beq_iff_eq] at ha
    have hF := tN ha.1
    rw [hown] at hF
    obtain ⟨r1, r2⟩ := hroom
    rw [zuc_new] at r1
    rw [zus_new] at r2
    exact zs_new C hI hF ha.2 hL hlk hsk hR hS hd r1 r2 kk
  case newarray t =>
    obtain ⟨hd, rfl, ht, ha⟩ := hz
    simp only [zpure] at hp
    split at hp <;> first | contradiction | skip
    split at hp <;> first | contradiction | skip
    rename_i hn
    cases hp
    obtain ⟨r1, r2⟩ := hroom
    rw [zuc_new] at r1
    rw [zus_new] at r2
    have ha2 : t = .int ∨ t = .byte := by
      cases t <;> first | exact Or.inl rfl | exact Or.inr rfl | exact absurd (show false = true from ha) (by decide)
    exact zs_newarray C hI ha2 hL hlk (fun v hv => hsk v (List.mem_cons_of_mem _ hv)) hR hS hd hn r1 r2 kk
  case anewarray n =>
    obtain ⟨hd, rfl, ht, ha⟩ := hz
    simp only [zpure] at hp
    split at hp <;> first | contradiction | skip
    split at hp <;> first | contradiction | skip
    rename_i hn
    cases hp
    obtain ⟨r1, r2⟩ := hroom
    have hF := tS ha
    rw [hown] at hF
    rw [zuc_new] at r1
    rw [zus_new] at r2
    exact zs_anewarray C hI hF hL hlk (fun v hv => hsk v (List.mem_cons_of_mem _ hv)) hR hS hd hn r1 r2 kk
  case multianewarray n d =>
    obtain ⟨hd, rfl, ht, ha⟩ := hz
    simp only [zpure] at hp
    split at hp <;> first | contradiction | skip
    split at hp <;> first | contradiction | skip
    rename_i kd ke _ _ w z st' hn
    cases hp
    obtain ⟨r1, r2⟩ := hroom
    simp only [zaux, Bool.and_eq_true, Bool.or_eq_true, beq_iff_eq] at ha
    obtain ⟨⟨rfl, a2⟩, a3⟩ := ha
    have hF := tS a2
    rw [hown] at hF
    have e1 : ∀ (q w n : Nat) (f : Nat → Value) (g w2 : Nat) (v : Value), zuc (znews (znew h q n f) g w2 v n) - zuc h = 1 + n := fun q w n f g w2 v => by show h.1.2.1 + 1 + n - h.1.2.1 = 1 + n; omega
    have e2 : ∀ (q w n : Nat) (f : Nat → Value) (g w2 : Nat) (v : Value), zus (znews (znew h q n f) g w2 v n) - zus h = n + n * w2 := fun q w n f g w2 v => by show h.1.2.2 + n + n * w2 - h.1.2.2 = n + n * w2; omega
    simp only [e1 _ 0, e2 _ 0] at r1 r2
    · exact zs_multi (ty := .byte) C hI ⟨a3.1, a3.2, rfl⟩ hF hL hlk (fun v hv => hsk v (List.mem_cons_of_mem _ (List.mem_cons_of_mem _ hv))) hR hS hd hn r1 r2 kk
  case arraylength =>
    obtain ⟨hd, rfl, ht, ha⟩ := hz
    simp only [zpure] at hp
    split at hp <;> first | contradiction | skip
    split at hp <;> first | contradiction | skip
    split at hp <;> first | contradiction | skip
    rename_i a st' q1 q2
    cases hp
    exact zs_arraylength C hI hρ hL hR hS hd q1 (hI0.2.2 _ q2) kk
  case iaload =>
    obtain ⟨hd, rfl, ht, ha⟩ := hz
    simp only [zpure] at hp
    split at hp
    · split at hp <;> first | contradiction | skip
      split at hp <;> first | contradiction | skip
      rename_i q1 q2
      cases hp
      exact zs_iaload0 C hI hρ hL hR hS hd q1 kk
    · exact zs_iaload C hI hL hR hS hd hp kk
  case baload =>
    obtain ⟨hd, rfl, ht, ha⟩ := hz
    simp only [zpure] at hp
    split at hp <;> first | contradiction | skip
    split at hp
    · rename_i q
      exact absurd q (hI.2.1 _ (by rw [q]; decide)).2.2.1
    · exact zs_baload C hI hL hR hS hd hp kk
  case caload =>
    obtain ⟨hd, rfl, ht, ha⟩ := hz
    simp [zaux] at ha
  case laload =>
    obtain ⟨hd, rfl, ht, ha⟩ := hz
    simp [zaux] at ha
  case daload =>
    obtain ⟨hd, rfl, ht, ha⟩ := hz
    simp [zaux] at ha
  case castore =>
    obtain ⟨hd, rfl, ht, ha⟩ := hz
    simp [zaux] at ha
  case lastore =>
    obtain ⟨hd, rfl, ht, ha⟩ := hz
    simp [zaux] at ha
  case dastore =>
    obtain ⟨hd, rfl, ht, ha⟩ := hz
    simp [zaux] at ha
  case aaload =>
    obtain ⟨hd, rfl, ht, ha⟩ := hz
    simp only [zpure] at hp
    split at hp <;> first | contradiction | skip
    split at hp <;> first | contradiction | skip
    rename_i q
    rcases q with q | q | q <;> rw [q] at hp
    · exact zs_aaload6 C hI hL hR hS hd hp kk
    · exact zs_aaload7 C hI hL hR hS hd hp kk
    · exact absurd q (hI.2.1 _ (by rw [q]; decide)).2.2.2
  case iastore =>
    obtain ⟨hd, rfl, ht, ha⟩ := hz
    simp only [zpure] at hp
    split at hp <;> first | contradiction | skip
    obtain ⟨q, rfl⟩ := zp_ast hp
    exact zs_iastore C hI hL hR hS hd q kk
  case bastore =>
    obtain ⟨hd, rfl, ht, ha⟩ := hz
    simp only [zpure] at hp
    split at hp <;> first | contradiction | skip
    split at hp
    · rename_i q
      exact absurd q (hI.2.1 _ (by rw [q]; decide)).2.2.1
    · obtain ⟨q, rfl⟩ := zp_ast hp
      exact zs_bastore C hI hL hR hS hd q kk
  case aastore =>
    obtain ⟨hd, rfl, ht, ha⟩ := hz
    simp only [zpure] at hp
    split at hp <;> first | contradiction | skip
    · split at hp <;> first | contradiction | skip
      rename_i q0
      obtain ⟨q, rfl⟩ := zp_ast hp
      exact zs_aastore C hI hok hL hR hS hd q q0 kk
    · obtain ⟨q, rfl⟩ := zp_ast hp
      exact zs_aastoreN C hI hL hR hS hd q kk
  case checkcast n =>
    obtain ⟨hd, rfl, ht, ha⟩ := hz
    simp only [zpure] at hp
    split at hp <;> first | contradiction | skip
    split at hp <;> first | contradiction | skip
    rename_i q
    cases hp
    have hF := tK ha
    rw [hown] at hF
    exact zs_checkcast C hI hF hL hR hS hd q kk
  case ldc2_w n =>
    obtain ⟨hd, rfl, ht, ha⟩ := hz
    simp only [zpure] at hp
    split at hp <;> first | contradiction | skip
    cases hp
    have hF := tL (show zLTab.contains (zOI k, n, 4, _) = true from ha)
    rw [hown] at hF
    exact zs_ldc2 C hF hL hR hS hd kk
  case ldc n =>
    rcases hz with ⟨v, rfl, hz⟩ | hz
    · simp only [zpure] at hp
      split at hp <;> first | contradiction | skip
      rename_i w hw
      split at hp <;> first | contradiction | skip
      rename_i q
      cases hp
      exact zs_char C hown hz hw q.1 hL hml hR hS q.2 hcs kk
    obtain ⟨hd, rfl, ht, ha⟩ := hz
    simp only [zpure] at hp
    split at hp <;> first | contradiction | skip
    · cases hp
      have hF := tL (show zLTab.contains (zOI k, n, 0, _) = true from ha)
      rw [hown] at hF
      exact zs_ldc C hF rfl (show ¬ (_ : Nat) = 4 from fun q => by cases q) hL hR hS hd kk
    · cases hp
      have hF := tL (show zLTab.contains (zOI k, n, 1, _) = true from ha)
      rw [hown] at hF
      exact zs_ldc C hF rfl (show ¬ (_ : Nat) = 4 from fun q => by cases q) hL hR hS hd kk
    · cases hp
      have hF := tS (show zSTab.contains (zOI k, n, 10) = true from ha)
      rw [hown] at hF
      exact zs_ldcM C hρ hF hL hR hS hd kk
  case ldc_w n =>
    obtain ⟨hd, rfl, ht, ha⟩ := hz
    simp only [zpure] at hp
    split at hp <;> first | contradiction | skip
    · cases hp
      have hF := tL (show zLTab.contains (zOI k, n, 0, _) = true from ha)
      rw [hown] at hF
      exact zs_ldcw C hF rfl (show ¬ (_ : Nat) = 4 from fun q => by cases q) hL hR hS hd kk
    · cases hp
      have hF := tL (show zLTab.contains (zOI k, n, 1, _) = true from ha)
      rw [hown] at hF
      exact zs_ldcw C hF rfl (show ¬ (_ : Nat) = 4 from fun q => by cases q) hL hR hS hd kk
  case invokespecial n =>
    obtain ⟨hd, rfl, ht, ha⟩ := hz
    simp only [zpure] at hp
    split at hp <;> first | contradiction | skip
    split at hp <;> first | contradiction | skip
    rename_i a st' q
    cases hp
    obtain ⟨rfl, q2⟩ := q
    have hF := tS ha
    rw [hown] at hF
    exact zs_objInit C hL hml hR hS (Nat.le_trans (zcat_le _) (by omega)) hcs hF hd kk
  case invokestatic n =>
    obtain ⟨hd, rfl, ht, ha⟩ := hz
    simp only [zpure, zint] at hp
    split at hp <;> first | contradiction | skip
    · split at hp <;> first | contradiction | skip
      rename_i q
      cases hp
      have hF := tS (by simp only [zaux, Bool.and_eq_true] at ha; exact ha.2)
      rw [hown] at hF
      exact zs_max C hL hml hR hS (Nat.le_trans (zcat_le _) (by omega)) hcs hF hd kk
    · split at hp <;> first | contradiction | skip
      rename_i q
      cases hp
      have hF := tS (by simp only [zaux, Bool.and_eq_true] at ha; exact ha.2)
      rw [hown] at hF
      exact zs_min C hL hml hR hS (Nat.le_trans (zcat_le _) (by omega)) hcs hF hd kk
    · split at hp <;> first | contradiction | skip
      rename_i q
      cases hp
      have hF := tS (by simp only [zaux, Bool.and_eq_true] at ha; exact ha.2)
      rw [hown] at hF
      exact zs_abs (y := 0) C hL hml hR hS (Nat.le_trans (zcat_le _) (by omega)) hcs hF hd kk
    · split at hp <;> first | contradiction | skip
      rename_i q
      cases hp
      have hF := tS (by simp only [zaux, Bool.and_eq_true] at ha; exact ha.2)
      rw [hown] at hF
      exact zs_arraycopy C hI hok hL hml hR hS (Nat.le_trans (zcat_le _) (by omega)) hF hd ⟨q.2.1, q.2.2.1⟩ q.2.2.2.1 q.2.2.2.2.1 q.2.2.2.2.2.1 q.2.2.2.2.2.2.1 q.2.2.2.2.2.2.2.1 q.2.2.2.2.2.2.2.2 kk
    all_goals (simp [zaux] at ha)
  case invokevirtual n =>
    obtain ⟨hd, rfl, ht, ha⟩ := hz
    simp only [zpure, zinv] at hp
    split at hp <;> first | contradiction | skip
    split at hp <;> first | contradiction | skip
    rename_i q
    cases hp
    have hF := tS ha
    rw [hown] at hF
    exact zs_getClass C hL hml hR hS (Nat.le_trans (zcat_le _) (by omega)) hcs hI hρ q.2 hF hd kk
  all_goals (simp only [zpure] at hp; contradiction)
end ZA

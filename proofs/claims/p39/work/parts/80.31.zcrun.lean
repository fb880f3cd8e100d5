/-! a call of the abstract machine is a call of the machine -/
section ZU
variable {p : Program} {l : Launch} {e : Env} {R : Room} {s : State} {m : MethodId} {args : Array Value} {below : List Frame} {meth : Method} {c : Code}
variable {k pc : Nat} {D : va_G} {cs : Nat → ClassId} {A : Nat → Prop} {b e1 mi L : Nat} {xs : Nat → Int32} {ρ : Nat → Nat} {ls : zL} {st : zS} {h : zH} {lsC : Array Slot} {H : Heap} {locs : List Loc} {cells slots : Nat}
theorem zcall_run {i : Instr} {nx j n ml rk : Nat} {ar : List Value × zS} {q1 : zR × zH} (V : zEnv k D cs A b e1 mi L xs p l R s m args meth c) (F : zFm k D cs A b e1 mi L xs s ρ ls st h lsC H locs) (hz : zok2 k pc i nx j n ml rk) (ht : ztake n st = some ar) (hr : zrcv rk ar.1 h = true)
    (hph : zPhi D cs A b e1 mi L xs l j 0 (zentry ml ar.1) [] h q1) (hroom : cells + (zuc q1.2 - zuc h) ≤ R.cells ∧ slots + (zus q1.2 - zus h) ≤ R.slots) :
    ∃ As : Array Value, vx_Run p l e R s m args below meth c H locs cells slots (zuc q1.2 - zuc h) (zus q1.2 - zus h) (F0 m pc lsC (st.map (vmap ρ))) (ar.2.map (vmap ρ)) (zQc D cs A ρ (zn h) q1 As) (zXc D cs A ρ (zn h) q1) A := by
  obtain ⟨hln, hI, hL, hlok, hsok, hR, hS, hρ⟩ := F
  obtain ⟨hd, -, rfl, hrk, hml, ⟨-, hnm⟩, hz⟩ := hz
  obtain ⟨hn, h1, h4, rfl⟩ := ztake_ok ht
  dsimp only at hr hph ⊢
  have V' := V
  obtain ⟨hG, hx, hb, hown, hws, hmL, -, -, -, -, -, hl, hk⟩ := V'
  have hlen : ((st.take n).reverse).length = n := by simp; omega
  have hall : ((st.take n).reverse).all zc1 = true := by rw [List.all_reverse]; exact h1
  have hsk : zSOK (zn h) (st.take n).reverse := zSOK_take hsok
  have S : CallFix p m c (zB k) (zML k) s args zW (zY k).cls := ⟨hx, hb, hmL, hown, hws⟩
  have hsum := zcat_sum (ρ := ρ) (st.drop n)
  have hsize : (F0 m pc lsC (st.map (vmap ρ))).locals.size = zML k := hL.1.trans hln
  have hW : 2 * (F0 m pc lsC (st.map (vmap ρ))).monitorRoom + (((st.drop n).map (vmap ρ)).map fun v => v.category).sum ≤ 8 := by
    have : (F0 m pc lsC (st.map (vmap ρ))).monitorRoom = 0 := rfl
    omega
  have hstk : st.map (vmap ρ) = (((st.take n).reverse).map (vmap ρ)).reverse ++ (st.drop n).map (vmap ρ) := by
    rw [← List.map_reverse, List.reverse_reverse, ← List.map_append, List.take_append_drop]
  have hM := fun hj => zmet_of (ρ := ρ) hph (by rw [hlen]; exact hnm) hall hI hsk hj hρ hl
  have hPc : ∀ U : State, U.heap = H → s.WarmedH U.vm → zPc D cs A b e1 mi L xs ρ (st.take n).reverse h (((st.take n).reverse).map (vmap ρ)).toArray U := fun U hU hW => ⟨rfl, hG.moved hU hW hS, by rw [hU]; exact hR⟩
  split at hz
  · rename_i idx
    obtain ⟨hmem, rfl⟩ := hz
    obtain ⟨hj, hlk, hst, hlen'⟩ := zMTab_ok _ hmem
    dsimp only at hj hlk hst hlen'
    rw [zown_eq k hk] at hlk
    refine ⟨(((st.take n).reverse).map (vmap ρ)).toArray, ?_⟩
    cases hH : zHH j with
    | none => exact vx_runS S (hM hj) ⟨zcall_B V hlk hj hH hrk hml hlen', hws _ hst⟩ ⟨zPc_blind, hPc⟩ rfl (by simpa using hlen) hsize hstk hW hd hroom
    | some hh => exact vx_runSX S (hM hj) (zcall_S V hlk hst hj hH hrk hml hlen') ⟨zPc_blind, hPc⟩ rfl (by simpa using hlen) hsize hstk hW hd hroom
  · rename_i idx
    obtain ⟨hmem, rfl⟩ := hz
    obtain ⟨hj, hlk, hin, hy1, hrt, hH, hlen'⟩ := zMTab_ok _ hmem
    dsimp only at hj hlk hin hy1 hrt hH hlen'
    rw [zown_eq k hk] at hlk
    cases hq : (st.take n).reverse with
    | nil => rw [hq] at hr; cases hr
    | cons v as =>
      rw [hq] at hr hlen hstk hPc hM
      cases v with
      | ref a =>
        have hB := zcall_B (n := as.length) (q1 := q1) (h := h) V hlk hj hH hrk hml (by
          cases hp : parseMethodDescriptor (zY j).desc with
          | none => rw [hp] at hlen'; cases hlen'
          | some d =>
            rw [hp] at hlen'
            have := Option.some.inj hlen'
            dsimp only at this
            simp only [Option.map_some, Option.some.injEq]
            simp only [List.length_cons] at hlen
            omega)
        rw [hrt] at hB
        refine ⟨_, zrunI S (hM hj) ⟨hB, hy1, hws _ hin⟩ (b := ρ a) (As := as.map (vmap ρ)) ⟨zPc_blind, fun U hU hW => hPc U hU hW⟩ rfl (by simp) hsize ?_ hW hd hroom⟩
        show st.map (vmap ρ) = _
        rw [hstk]
        simp [vmap]
      | _ => cases hr
  · rename_i idx
    obtain ⟨hmem, hr0, hr100⟩ := hz
    obtain ⟨hj, hlk, hz2⟩ := zMTab_ok _ hmem
    dsimp only at hj hlk hz2
    rw [zown_eq k hk] at hlk
    split at hz2
    · exact absurd rfl hr0
    · exact absurd rfl hr100
    · rename_i r _
      obtain ⟨hin, hse, hH, hcl, hcn, hlen'⟩ := hz2
      cases hq : (st.take n).reverse with
      | nil => rw [hq] at hr; cases hr
      | cons v as =>
        rw [hq] at hr hlen hstk hPc hM hsk
        cases v with
        | ref a =>
          have hr8 : r < 8 := by
            have := (List.getElem?_eq_some_iff.mp hcl).1
            exact this
          have hka : zk h a = r := by
            simp only [zrcv, Bool.or_eq_true, beq_iff_eq] at hr
            omega
          have hB := zcall_B (n := as.length) (q1 := q1) (h := h) V hlk hj hH hrk hml (by
            cases hp : parseMethodDescriptor (zY j).desc with
            | none => rw [hp] at hlen'; cases hlen'
            | some d =>
              rw [hp] at hlen'
              have := Option.some.inj hlen'
              dsimp only at this
              simp only [Option.map_some, Option.some.injEq]
              simp only [List.length_cons] at hlen
              omega)
          have hIa := hI.1.2.1 a (by omega)
          have hcell := zws_get (ρ := ρ) (cs := cs) hIa.1 hIa.2.1
          have hzc : zcell ρ cs h a = .inr (r, zfs ρ h a) := by
            unfold zcell
            rw [if_pos (by omega), hka]
          rw [hzc] at hcell
          have hrv := va_recv hG.1 hR.1 hcl hcell
          rw [hcn] at hrv
          refine ⟨_, vx_runV S (hM hj) ⟨hB, hws _ hin, hws _ hse⟩ (b := ρ a) (As := as.map (vmap ρ)) ⟨zPc_blind, hrv, fun U hU hW => hPc U hU hW⟩ rfl (by simp) hsize ?_ hW hd hroom⟩
          show st.map (vmap ρ) = _
          rw [hstk]
          simp [vmap]
        | _ => cases hr
  · exact hz.elim
/-- behind a call -/
theorem zrun_go {n mc ms : Nat} {q1 : zR × zH} {As : Array Value} {Q : State → Prop} {st0 rest : List Value} (hr : vx_Run p l e R s m args below meth c H locs cells slots mc ms (F0 m pc lsC st0) rest (zQc D cs A ρ n q1 As) (zXc D cs A ρ n q1) A) (hS : va_S A s.heap H locs)
    (kr : ∀ (v : Option Value) (ρ' : Nat → Nat) (H' : Heap) (locs' : List Loc), q1.1 = .inl v → Ext n ρ ρ' → zHR D cs A ρ' q1.2 H' → va_S A s.heap H' locs' → W p l e R s m args below meth c H' locs' (cells + mc) (slots + ms) Q (F0 m (pc + 3) lsC ((v.map (vmap ρ')).toList ++ rest)))
    (kx : ∀ (x : Nat) (ρ' : Nat → Nat) (H' : Heap) (locs' : List Loc) (q9 : Addr) (ce : Cell), q1.1 = .inr x → Ext n ρ ρ' → zHR D cs A ρ' q1.2 H' → va_S A s.heap H' locs' → H'[q9]? = some ce → ce.vm = .none → s.vm.findClass (zEx x) = some ce.cls → vx_W p l e R s m args below meth c H' locs' (cells + mc) (slots + ms) Q (F0 m pc lsC rest) q9) :
    W p l e R s m args below meth c H locs cells slots Q (F0 m pc lsC st0) := by
  intro T hT X
  rcases hr T hT X with ⟨v, st₀, t, T', L, h0, X', hL, e1, e2, ⟨⟨v', ρ', h1, h2, h3, h4⟩, hF⟩, st⟩ | ⟨q, st₀, t, T', L, E, ce, h0, X', hL, e1, e2, ⟨⟨x, ρ', h1, rfl, h3, h4⟩, hF⟩, hce, hcv, hcl, st⟩
  · cases h2
    obtain ⟨-, -, k3⟩ := vx_keep h0 e1 hS (fun _ _ h => h) (fun _ h => h) hL hF
    obtain ⟨t2, a1, b1⟩ := kr v' ρ' T'.heap (locs ++ L) h1 h3 (by rw [e1]; exact h4) k3 T' rfl X'
    exact ⟨t2, st t2 a1, b1⟩
  · obtain ⟨-, -, k3⟩ := vx_keep h0 e1 hS (fun _ _ h => h) (fun _ h => h) hL hF
    obtain ⟨t2, a1, b1⟩ := kx x ρ' T'.heap (locs ++ L) q ce h1 h3 (by rw [e1]; exact h4) k3 (by rw [e1]; exact hce) hcv hcl T' rfl X'
    exact ⟨t2, st.trans a1, b1⟩
end ZU

/-! the main theorem: a run of the abstract machine is a run of the machine -/
theorem zhas_none : ∀ k, k < 244 → zhas k = false → zHH k = none := by
  have h : (List.range 244).all (fun k => zhas k || (zHH k).isNone) = true := by decide +kernel
  intro k hk h0
  have := List.all_eq_true.mp h k (List.mem_range.mpr hk)
  rw [h0, Bool.false_or] at this
  exact Option.isNone_iff_eq_none.mp this
theorem zLR.clr {ρ : Nat → Nat} {ls : zL} {lsC' : Array Slot} {i : Nat} {w : Value} (h : lv_has lsC' ls.length ((i, w) :: (zas ρ ls).filter (fun q => !(q.1 == i) && !(q.1 + 1 == i && q.2.category == 2)))) : zLR ρ (lclr ls i) lsC' := by
  refine ⟨h.1.trans (lclr_len ls i).symm, h.2.1, fun j v hj => ?_⟩
  obtain ⟨h1, h2, h3⟩ := lclr_get hj
  refine h.2.2 (j, vmap ρ v) (List.mem_cons_of_mem _ (List.mem_filter.mpr ⟨mem_zas h1, ?_⟩))
  by_cases e2 : j + 1 = i
  · have := h3 e2
    simp [h2, vmap_cat, this]
  · simp [h2, e2]
section ZV
variable {p : Program} {l : Launch} {e : Env} {R : Room} {s : State} {m : MethodId} {args : Array Value} {below : List Frame} {meth : Method} {c : Code}
variable {k pc : Nat} {D : va_G} {cs : Nat → ClassId} {A : Nat → Prop} {b e1 mi L : Nat} {xs : Nat → Int32} {ρ : Nat → Nat} {ls : zL} {st : zS} {h : zH} {lsC : Array Slot} {H : Heap} {locs : List Loc} {cells slots mc ms : Nat}
variable {Qc : Array Value → State → Outcome → State → Prop} {XC : String → State → State → Prop} {Q : State → Prop} {x : Nat} {q9 : Addr} {ce : Cell} {rest : List Value}
theorem zexc_out {n : Nat} {ρ' : Nat → Nat} {h' : zH} (V : zEnv k D cs A b e1 mi L xs p l R s m args meth c) (hh : zhas k = false) (hS : va_S A s.heap H locs) (hR : zHR D cs A ρ' h' H) (hx : Ext n ρ ρ') (hend : zEnd D cs A args s Qc XC ρ n (.inr x, h')) (hc : cells ≤ mc ∧ slots ≤ ms) (h1 : H[q9]? = some ce) (h2 : ce.vm = .none) (h3 : s.vm.findClass (zEx x) = some ce.cls) :
    vx_W p l e R s m args below meth c H locs cells slots (vx_MQ below Qc XC args s mc ms A) (F0 m pc lsC rest) q9 := by
  obtain ⟨-, -, -, -, -, -, -, -, hlk, htb, -, -, hk⟩ := V
  refine vx_out (fun y hy => ?_) hlk h1 h2 h3 (fun t ht ha => hend.2 x rfl ρ' t hx (by rw [ht]; exact hR) (zF_of hS ht) ha) hS.2.2 hc.1 hc.2
  rw [htb] at hy
  unfold zTb at hy
  rw [zhas_none k hk hh] at hy
  cases hy
theorem zexc_in {t9 : Nat × Nat} (hrl : zrl k = true) (V : zEnv k D cs A b e1 mi L xs p l R s m args meth c) (ht : zhT k x pc = some t9) (hL : zLR ρ ls lsC) (hln : ls.length = zML k) (h1 : H[q9]? = some ce) (h2 : ce.vm = .none) (h3 : s.vm.findClass (zEx x) = some ce.cls)
    (kk : ∀ lsC', zLR ρ (lclr ls t9.1) lsC' → W p l e R s m args below meth c H locs cells slots Q (F0 m t9.2 lsC' [])) : vx_W p l e R s m args below meth c H locs cells slots Q (F0 m pc lsC rest) q9 := by
  obtain ⟨n, nx⟩ := t9
  obtain ⟨lo, hi, hp, hmem, hlo, hhi⟩ := zhl_mem ht
  obtain ⟨⟨pre, suf, ct, hH, hct, hlk, hpre⟩, hE5, hn, hdec⟩ := zHs_ok _ hmem hrl
  dsimp only at hH hlk hpre hE5 hn hdec
  obtain ⟨hG, hx, hb, hown, hws, -, -, -, -, htb, -, -, hk⟩ := V
  obtain ⟨-, -, -, -, -, -, -, -, -, -, -, -, -, hND, -, hNc, -⟩ := hG
  have hcast : (Cond.castable (zEx x) (zEx x)).before args s = true := zND_use rfl (hND _ (List.mem_filter.mpr ⟨List.contains_iff_mem.mp (zcastE x hE5), rfl⟩))
  refine vx_catch hown (tableOf pre) ⟨lo, hi, hp, ct⟩ (tableOf suf) ?_ ?_ ?_ hct (hws _ hlk) hcast h1 h2 h3 ?_
  · rw [htb]
    unfold zTb
    rw [hH]
    simp [tableOf]
  · intro z hz
    obtain ⟨y, hy, rfl⟩ := List.mem_map.mp hz
    obtain ⟨g1, F, g2, g3, g4⟩ := hpre y hy
    exact Or.inr ⟨g1, F, hws _ g4, hNc _ (zEx_mem x hE5) F g2 g3⟩
  · unfold covers
    simp [hlo, hhi]
  · have hlv := hL.has
    rcases hdec with ⟨hd, rfl⟩ | ⟨f, hf, hd, rfl⟩
    · exact lv_astore hx hb hd hlv (by rw [hln]; exact hn) rfl (fun ls' h' => kk ls' (zLR.clr h'))
    · exact lv_astore_n hx hb hd hf hlv (by rw [hln]; exact hn) rfl (fun ls' h' => kk ls' (zLR.clr h'))
end ZV
set_option maxHeartbeats 1000000 in
theorem zx_sound (hcode : ∀ k pc e, zrl k = true → codeT k pc = some e → zok k pc e) {D : va_G} {cs : Nat → ClassId} {A : Nat → Prop} {b e1 mi L : Nat} {xs : Nat → Int32} {l : Launch} : ∀ (k pc : Nat) (ls : zL) (st : zS) (h : zH) (q : zR × zH), zx k pc ls st h = some q → zrl k = true → zINV L xs h → zLOK (zn h) ls → zSOK (zn h) st → zxG L xs h q ∧ zPhi D cs A b e1 mi L xs l k pc ls st h q := by
  refine zx.partial_correctness (fun k pc ls st h q => zrl k = true → zINV L xs h → zLOK (zn h) ls → zSOK (zn h) st → zxG L xs h q ∧ zPhi D cs A b e1 mi L xs l k pc ls st h q) ?_
  intro f ih k pc ls st h q hq hrl hI hl hs
  split at hq
  · cases hq
  · rename_i i nx tg aux hc
    cases hp : zpure i nx tg aux ls st h with
    | none => rw [hp] at hq; cases hq
    | some r =>
      rw [hp] at hq
      have g := zpure_inv hI (hcode k pc _ hrl hc) hp hl hs
      obtain ⟨G1, G2⟩ := ih _ _ _ _ _ _ hq hrl g.1 g.2.1 g.2.2.1
      refine ⟨zxG.tr g.2.2.2.1 g.2.2.2.2.1 g.2.2.2.2.2.1 G1, ?_⟩
      intro p e R s m args below meth c Qc XC mc ms ρ lsC H locs cells slots V F hcc hR9 hend
      obtain ⟨f1, f2, f3, f4, f5, f6, f7, f8⟩ := F
      have u1 := g.2.2.2.2.1
      have u2 := g.2.2.2.2.2.1
      have u3 := G1.2.2.1
      have u4 := G1.2.2.2.1
      have hV := V
      obtain ⟨hG, -, -, -, -, hmL, -, -, -, -, -, -, hk⟩ := hV
      obtain ⟨-, -, -, -, -, -, -, -, -, -, -, -, -, -, -, -, -, -, n4⟩ := hG
      refine zpure_sound V.ctx hk hI f8 (by rw [f8.2.1]; exact n4) (hcode k pc _ hrl hc) hp f3 (hmL.trans f1.symm) hl hs f6 f7 ⟨by omega, by omega⟩ ?_
      intro ρ' lsC' H' locs' e1' e2' e3' e4'
      have h3 : 3 ≤ zn h := hI.1.1
      exact G2 p e R s m args below meth c Qc XC mc ms ρ' lsC' H' locs' _ _ V ⟨g.2.2.2.2.2.2.trans f1, g.1, e2', g.2.1, g.2.2.1, e3', e4', by rw [e1' 0 (by omega), e1' 1 (by omega), e1' 2 (by omega)]; exact f8⟩ ⟨by omega, by omega⟩ hR9 (hend.ext g.2.2.2.1 e1')
  · rename_i i nx tg aux hc
    have hz := hcode k pc _ hrl hc
    rcases aux with _ | ⟨t, _ | ⟨t2, r⟩⟩
    · exact False.elim hz
    · refine ⟨?_, ?_⟩
      · unfold zret at hq
        split at hq
        · split at hq
          · cases hq
            exact ⟨hI, Nat.le_refl _, Nat.le_refl _, Nat.le_refl _, fun v hv => nomatch hv⟩
          · cases hq
        · split at hq
          · cases hq
            exact ⟨hI, Nat.le_refl _, Nat.le_refl _, Nat.le_refl _, fun v hv => by cases hv; exact hs _ List.mem_cons_self⟩
          · cases hq
        · cases hq
      · intro p e R s m args below meth c Qc XC mc ms ρ lsC H locs cells slots V F hcc hR9 hend
        exact zret_sound V F hz hq ⟨by omega, by omega⟩ hend
    · exact False.elim hz
  · rename_i i nx tg aux hc
    have hz := hcode k pc _ hrl hc
    rcases aux with _ | ⟨j, _ | ⟨n, _ | ⟨ml, _ | ⟨rk, _ | ⟨t2, r⟩⟩⟩⟩⟩
    · exact False.elim hz
    · exact False.elim hz
    · exact False.elim hz
    · exact False.elim hz
    · have hz2 : zok2 k pc i nx j n ml rk := hz
      have hnx := hz2.2.1
      simp only [List.getD_cons_zero, List.getD_cons_succ] at hq
      cases ht : ztake n st with
      | none => rw [ht] at hq; cases hq
      | some ar =>
        rw [ht] at hq
        dsimp only at hq
        have hto := ztake_ok ht
        split at hq
        · rename_i hrv
          simp only [Option.bind_eq_bind, Option.bind_eq_some_iff] at hq
          obtain ⟨q1, hq1, hq2⟩ := hq
          have hs2 : zSOK (zn h) ar.2 := by rw [hto.2.2.2]; exact zSOK_drop hs
          obtain ⟨G1, P1⟩ := ih _ _ _ _ _ _ hq1 (zok_callee hz) hI (by rw [hto.2.2.2]; exact zLOK_entry (zSOK_take hs)) (zSOK_nil.mpr trivial)
          have hl1 : zLOK (zn q1.2) ls := hl.mono G1.2.1
          have hs1 : zSOK (zn q1.2) ar.2 := hs2.mono G1.2.1
          have h3 : 3 ≤ zn h := hI.1.1
          have u1 := G1.2.2.1
          have u2 := G1.2.2.2.1
          obtain ⟨r1, h1⟩ := q1
          dsimp only at hl1 hs1 u1 u2
          rcases r1 with (_ | v) | x
          · dsimp only at hq2
            obtain ⟨G2, P2⟩ := ih _ _ _ _ _ _ hq2 hrl G1.1 hl1 hs1
            have u3 := G2.2.2.1
            have u4 := G2.2.2.2.1
            refine ⟨zxG.tr G1.2.1 u1 u2 G2, ?_⟩
            intro p e R s m args below meth c Qc XC mc ms ρ lsC H locs cells slots V F hcc hR9 hend
            obtain ⟨As, hrun⟩ := zcall_run (cells := cells) (slots := slots) V F hz2 ht hrv P1 ⟨by dsimp only; omega, by dsimp only; omega⟩
            obtain ⟨f1, f2, f3, f4, f5, f6, f7, f8⟩ := F
            refine zrun_go hrun f7 (fun v ρ' H' locs' g1 g2 g3 g4 => ?_) (fun y ρ' H' locs' q9 ce g1 => by cases g1)
            cases g1
            have := P2 p e R s m args below meth c Qc XC mc ms ρ' lsC H' locs' (cells + (zuc h1 - zuc h)) (slots + (zus h1 - zus h)) V ⟨f1, G1.1, f3.ext g2 hl, hl1, hs1, g3, g4, by rw [g2 0 (by omega), g2 1 (by omega), g2 2 (by omega)]; exact f8⟩ ⟨by omega, by omega⟩ hR9 (hend.ext G1.2.1 g2)
            rw [zst_ext g2 hs2, hnx] at this
            exact this
          · dsimp only at hq2
            have hv : VOK (zn h1) v := G1.2.2.2.2 v rfl
            obtain ⟨G2, P2⟩ := ih _ _ _ _ _ _ hq2 hrl G1.1 hl1 (zSOK_cons.mpr ⟨hv, hs1⟩)
            have u3 := G2.2.2.1
            have u4 := G2.2.2.2.1
            refine ⟨zxG.tr G1.2.1 u1 u2 G2, ?_⟩
            intro p e R s m args below meth c Qc XC mc ms ρ lsC H locs cells slots V F hcc hR9 hend
            obtain ⟨As, hrun⟩ := zcall_run (cells := cells) (slots := slots) V F hz2 ht hrv P1 ⟨by dsimp only; omega, by dsimp only; omega⟩
            obtain ⟨f1, f2, f3, f4, f5, f6, f7, f8⟩ := F
            refine zrun_go hrun f7 (fun v' ρ' H' locs' g1 g2 g3 g4 => ?_) (fun y ρ' H' locs' q9 ce g1 => by cases g1)
            cases g1
            have := P2 p e R s m args below meth c Qc XC mc ms ρ' lsC H' locs' (cells + (zuc h1 - zuc h)) (slots + (zus h1 - zus h)) V ⟨f1, G1.1, f3.ext g2 hl, hl1, zSOK_cons.mpr ⟨hv, hs1⟩, g3, g4, by rw [g2 0 (by omega), g2 1 (by omega), g2 2 (by omega)]; exact f8⟩ ⟨by omega, by omega⟩ hR9 (hend.ext G1.2.1 g2)
            rw [List.map_cons, zst_ext g2 hs2, hnx] at this
            exact this
          · dsimp only at hq2
            split at hq2
            · split at hq2
              · cases hq2
              · rename_i hnh
                cases hq2
                refine ⟨⟨G1.1, G1.2.1, u1, u2, fun v hv => nomatch hv⟩, ?_⟩
                intro p e R s m args below meth c Qc XC mc ms ρ lsC H locs cells slots V F hcc hR9 hend
                dsimp only at hcc
                obtain ⟨As, hrun⟩ := zcall_run (cells := cells) (slots := slots) V F hz2 ht hrv P1 ⟨by dsimp only; omega, by dsimp only; omega⟩
                obtain ⟨f1, f2, f3, f4, f5, f6, f7, f8⟩ := F
                refine zrun_go hrun f7 (fun v' ρ' H' locs' g1 => by cases g1) (fun y ρ' H' locs' q9 ce g1 g2 g3 g4 g5 g6 g7 => ?_)
                cases g1
                exact zexc_out V (Bool.eq_false_iff.mpr hnh) g4 g3 g2 hend hcc g5 g6 g7
            · rename_i t9 ht9
              obtain ⟨G2, P2⟩ := ih _ _ _ _ _ _ hq2 hrl G1.1 (zLOK_clr hl1) (zSOK_nil.mpr trivial)
              have u3 := G2.2.2.1
              have u4 := G2.2.2.2.1
              refine ⟨zxG.tr G1.2.1 u1 u2 G2, ?_⟩
              intro p e R s m args below meth c Qc XC mc ms ρ lsC H locs cells slots V F hcc hR9 hend
              obtain ⟨As, hrun⟩ := zcall_run (cells := cells) (slots := slots) V F hz2 ht hrv P1 ⟨by dsimp only; omega, by dsimp only; omega⟩
              obtain ⟨f1, f2, f3, f4, f5, f6, f7, f8⟩ := F
              refine zrun_go hrun f7 (fun v' ρ' H' locs' g1 => by cases g1) (fun y ρ' H' locs' q9 ce g1 g2 g3 g4 g5 g6 g7 => ?_)
              cases g1
              refine zexc_in hrl V ht9 (f3.ext g2 hl) f1 g5 g6 g7 (fun lsC' hL' => ?_)
              exact P2 p e R s m args below meth c Qc XC mc ms ρ' lsC' H' locs' (cells + (zuc h1 - zuc h)) (slots + (zus h1 - zus h)) V ⟨(lclr_len _ _).trans f1, G1.1, hL', zLOK_clr hl1, zSOK_nil.mpr trivial, g3, g4, by rw [g2 0 (by omega), g2 1 (by omega), g2 2 (by omega)]; exact f8⟩ ⟨by omega, by omega⟩ hR9 (hend.ext G1.2.1 g2)
        · cases hq
    · exact False.elim hz
  · rename_i i nx tg aux hc
    have hz := hcode k pc _ hrl hc
    rcases aux with _ | ⟨E, _ | ⟨ik, _ | ⟨is, _ | ⟨ic, _ | ⟨w, _ | ⟨t2, r⟩⟩⟩⟩⟩⟩
    · exact False.elim hz
    · exact False.elim hz
    · exact False.elim hz
    · exact False.elim hz
    · exact False.elim hz
    · simp only [List.getD_cons_zero] at hq
      split at hq
      · rename_i hst
        cases hq
        refine ⟨⟨hI.chg, Nat.le_refl _, Nat.le_add_right _ _, Nat.le_add_right _ _, fun v hv => nomatch hv⟩, ?_⟩
        intro p e R s m args below meth c Qc XC mc ms ρ lsC H locs cells slots V F hcc hR9 hend
        have c1 : zuc (zchg h 1 6) = zuc h + 1 := rfl
        have c2 : zus (zchg h 1 6) = zus h + 6 := rfl
        dsimp only at hcc
        rw [c1, c2] at hcc
        exact zthrow_sound V F hz hst.1 ⟨by omega, by omega⟩ hR9 hend
      · cases hq
    · exact False.elim hz
  · cases hq

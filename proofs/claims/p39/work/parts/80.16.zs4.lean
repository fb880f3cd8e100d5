/-! stores, and what else reads or makes cells -/
section ZU
variable {p : Program} {l : Launch} {e : Env} {R : Room} {s : State} {m : MethodId} {args : Array Value} {below : List Frame} {meth : Method} {c : Code} {Q : State → Prop}
variable {k pc nx tg : Nat} {aux : List Nat} {D : va_G} {cs : Nat → ClassId} {A : Nat → Prop} {b e1 mi L : Nat} {xs : Nat → Int32} {ρ : Nat → Nat} {ls : zL} {st : zS} {h : zH} {lsC : Array Slot} {H : Heap} {locs : List Loc} {cells slots : Nat}
theorem zcell_ast {a i kd : Nat} {v : Value} {ct : (Nat → Int32) ⊕ (Nat → Int64) ⊕ (Nat → UInt32) ⊕ (Nat → UInt64) ⊕ (Nat → Option Nat)} (hk : zk h a = kd) (h1 : 20 ≤ kd) (hc : zct ρ (zput h a i v) a = ct) : (Sum.inl (cs (kd - 20), zl h a, ct) : va_E) = zcell ρ cs (zput h a i v) a := by
  rw [zcell_arr (h := zput h a i v) hk h1, hc]
  rfl
theorem zp_ast {kd : Nat} {v : Value} {i : Int32} {a : Nat} {r : Nat × zL × zS × zH} (hp : zast kd nx v i a ls st h = some r) : zin h kd a i ∧ r = (nx, ls, st, zput h a i.toInt.toNat v) := by
  unfold zast at hp
  split at hp <;> first | contradiction | skip
  rename_i h1
  cases hp
  exact ⟨h1, rfl⟩
theorem zgo_put {a i : Nat} {v : Value} {ce : va_E} (hI : ZI L xs h) (hk : zk h a < 29) (hL : zLR ρ ls lsC) (hce : ce = zcell ρ cs (zput h a i v) a) (kk : zKg p l e R s m args below meth c Q D cs A ρ h cells slots (nx, ls, st, zput h a i v)) : ∀ (H1 : Heap) (locs1 : List Loc), va_P D zcl ((zws ρ cs h).set (a - 3) (ρ a, ce)) H1 → va_D A ((zws ρ cs h).set (a - 3) (ρ a, ce)) → va_S A s.heap H1 locs1 → W p l e R s m args below meth c H1 locs1 cells slots Q (F0 m nx lsC (st.map (vmap ρ))) := by
  intro H1 locs1 hP hD hS1
  have := kk ρ lsC H1 locs1 Ext.rf hL (zHR.put hI hk hce hP hD) hS1
  simpa [zuc_put, zus_put] using this

theorem zs_iastore {x : Int32} {i : Int32} {a : Nat} (C : zCtx k D cs A b e1 mi L xs p R s m args meth c) (hI : ZI L xs h) (hL : zLR ρ ls lsC) (hR : zHR D cs A ρ h H) (hS : va_S A s.heap H locs) (hd : decode (zB k) pc = .ok (.iastore, 1)) (hi : zin h 20 a i) (kk : zKg p l e R s m args below meth c Q D cs A ρ h cells slots (pc + 1, ls, st, zput h a i.toInt.toNat (.int x))) : zWg p l e R s m args below meth c Q ρ pc lsC (.int x :: .int i :: .ref a :: st) H locs cells slots := by
  obtain ⟨h3, hn⟩ := hI.at (a := a) (by rw [hi.1]; omega)
  have hg := zws_get (ρ := ρ) (cs := cs) h3 hn
  rw [zcell_arr hi.1 (by omega), zct_i hi.1 (by omega)] at hg
  obtain ⟨v1, v2⟩ := zin_at hi
  refine va_iast (D := D) (cl := zcl) (tys := ztys cs) C.1 C.2.1 C.2.2.2.2.2.1 hR.1 hR.2 hS (a - 3) 0 hg (ztys_get (by omega)) v1 hd (zgo_put hI (by rw [hi.1]; omega) hL (zcell_ast hi.1 (by omega) ?_) kk)
  rw [zct_i (h := zput h a i.toInt.toNat (.int x)) hi.1 (by omega)]
  refine congrArg Sum.inl (funext fun j => ?_)
  simp only [upd, v2]
  by_cases e : j = i.toInt.toNat
  · subst e
    simp only [zm_put_s, if_true]
    rfl
  · simp only [zm_put_i e, if_neg e]
theorem zs_bastore {x : Int32} {i : Int32} {a : Nat} (C : zCtx k D cs A b e1 mi L xs p R s m args meth c) (hI : ZI L xs h) (hL : zLR ρ ls lsC) (hR : zHR D cs A ρ h H) (hS : va_S A s.heap H locs) (hd : decode (zB k) pc = .ok (.bastore, 1)) (hi : zin h 21 a i) (kk : zKg p l e R s m args below meth c Q D cs A ρ h cells slots (pc + 1, ls, st, zput h a i.toInt.toNat (.int (zbyte x)))) : zWg p l e R s m args below meth c Q ρ pc lsC (.int x :: .int i :: .ref a :: st) H locs cells slots := by
  obtain ⟨h3, hn⟩ := hI.at (a := a) (by rw [hi.1]; omega)
  have hg := zws_get (ρ := ρ) (cs := cs) h3 hn
  rw [zcell_arr hi.1 (by omega), zct_i hi.1 (by omega)] at hg
  obtain ⟨v1, v2⟩ := zin_at hi
  refine va_bast (D := D) (cl := zcl) (tys := ztys cs) C.1 C.2.1 C.2.2.2.2.2.1 hR.1 hR.2 hS (a - 3) 1 hg (ztys_get (by omega)) v1 hd (zgo_put hI (by rw [hi.1]; omega) hL (zcell_ast hi.1 (by omega) ?_) kk)
  rw [zct_i (h := zput h a i.toInt.toNat (.int (zbyte x))) hi.1 (by omega)]
  refine congrArg Sum.inl (funext fun j => ?_)
  simp only [upd, v2]
  by_cases e : j = i.toInt.toNat
  · subst e
    simp only [zm_put_s, if_true]
    rfl
  · simp only [zm_put_i e, if_neg e]
end ZU

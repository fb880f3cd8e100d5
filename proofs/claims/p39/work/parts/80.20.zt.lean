/-! String.charAt on the law's text -/
section ZCH
variable {p : Program} {l : Launch} {e : Env} {R : Room} {s : State} {m : MethodId} {args : Array Value} {below : List Frame} {meth : Method} {c : Code} {Q : State → Prop}
variable {k pc nx tg : Nat} {aux : List Nat} {D : va_G} {cs : Nat → ClassId} {A : Nat → Prop} {b e1 mi L : Nat} {xs : Nat → Int32} {ρ : Nat → Nat} {ls : zL} {st : zS} {h : zH} {lsC : Array Slot} {H : Heap} {locs : List Loc} {cells slots : Nat}
theorem zs_char {n v : Nat} {w : Int32} (C : zCtx k D cs A b e1 mi L xs p R s m args meth c) (hown : zOwn.getD (zOI k) "" = (zY k).cls) (hz : zch k pc n v nx) (hw : lget ls v = some (.int w)) (h0 : 0 ≤ w.toInt) (hL : zLR ρ ls lsC) (hml : c.maxLocals = ls.length) (hR : zHR D cs A ρ h H) (hS : va_S A s.heap H locs) (hlen : st.length ≤ 3) (hcs : cells ≤ R.cells ∧ slots ≤ R.slots) (kk : zKg p l e R s m args below meth c Q D cs A ρ h cells slots (nx, ls, .int (zfc w.toInt) :: st, h)) : zWg p l e R s m args below meth c Q ρ pc lsC st H locs cells slots := by
  sorry
end ZCH

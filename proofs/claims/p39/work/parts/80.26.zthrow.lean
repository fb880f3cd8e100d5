/-! throws, handlers, returns -/
def zNm : List String := ["java/lang/RuntimeException", "java/lang/Exception"]
/-- the constructor of NoSuchElementException(String) -/
abbrev zNSb : ByteArray := prog_39_method_4_code
/-- the words of a throw of E, but those of the heap -/
def zXws (own : String) (ic E : Nat) : List Jvm.Cond := if E = 4 then (zOwnA own ic (zEx 4) "java/lang/RuntimeException" ["java/lang/Exception"] 13 zNSb).filter vx_no else vx_atS own ic (zEx E) zNm
def zXall (own : String) (ic E : Nat) : Bool := (zXws own ic E).all (fun w => lw_tbl.contains w && (goodWord w || zisND w) && vx_ot w)
set_option maxRecDepth 20000 in
theorem zXA_0 : zXall RX5 55 0 = true := by decide +kernel
set_option maxRecDepth 20000 in
theorem zXA_1 : zXall RX5 81 1 = true := by decide +kernel
set_option maxRecDepth 20000 in
theorem zXA_2 : zXall RX5 99 2 = true := by decide +kernel
set_option maxRecDepth 20000 in
theorem zXA_3 : zXall RX5 228 4 = true := by decide +kernel
set_option maxRecDepth 20000 in
theorem zXA_4 : zXall RX5 321 3 = true := by decide +kernel
def zXOK (own : String) (ik is ic E : Nat) : Prop := (E < 5 ∧ (Cond.classLink own ik (zEx E) : Jvm.Cond) ∈ zW ∧ (Cond.initialized (zEx E) : Jvm.Cond) ∈ zW) ∧ (∃ text, (Cond.stringRef own is text : Jvm.Cond) ∈ lw_tbl) ∧ zXall own ic E = true
theorem zx_fit : ∀ E, E < 5 → Bundle.fit (zEx E) = true := by decide +kernel
theorem zNm_fit : ∀ n ∈ zNm, Bundle.fit n = true := by decide +kernel
theorem zEx_mem : ∀ E, E < 5 → zEx E ∈ zExs := by decide +kernel
def zXTab : List (Nat × Nat × Nat × Nat × Nat) := [(14, 51, 53, 55, 0), (14, 51, 93, 55, 0), (14, 51, 100, 55, 0), (14, 51, 102, 55, 0), (14, 51, 132, 55, 0), (14, 51, 137, 55, 0), (14, 51, 139, 55, 0), (14, 51, 141, 55, 0), (14, 51, 296, 55, 0), (14, 51, 298, 55, 0), (14, 51, 310, 55, 0), (14, 51, 312, 55, 0), (14, 77, 79, 81, 1), (14, 77, 104, 81, 1), (14, 77, 146, 81, 1), (14, 77, 268, 81, 1), (14, 77, 300, 81, 1), (14, 95, 97, 99, 2), (14, 95, 215, 99, 2), (14, 95, 302, 99, 2), (14, 95, 304, 99, 2), (14, 95, 306, 99, 2), (14, 95, 308, 99, 2), (14, 224, 226, 228, 4), (14, 224, 252, 228, 4), (14, 224, 262, 228, 4), (14, 224, 283, 228, 4), (14, 224, 322, 228, 4), (14, 224, 384, 228, 4), (14, 317, 319, 321, 3)]
set_option maxRecDepth 20000 in
theorem zXTab_ok : ∀ x ∈ zXTab, zXOK (zOwn.getD x.1 "") x.2.1 x.2.2.1 x.2.2.2.1 x.2.2.2.2 := by
  unfold zXTab
  refine List.forall_mem_cons.mpr ⟨⟨⟨by decide, zW_in 385 (by decide +kernel) (by decide +kernel), zW_in 61 (by decide +kernel) (by decide +kernel)⟩, ⟨_, List.mem_of_getElem? (i := 593) (by rfl)⟩, zXA_0⟩, ?_⟩
  refine List.forall_mem_cons.mpr ⟨⟨⟨by decide, zW_in 385 (by decide +kernel) (by decide +kernel), zW_in 61 (by decide +kernel) (by decide +kernel)⟩, ⟨_, List.mem_of_getElem? (i := 647) (by rfl)⟩, zXA_0⟩, ?_⟩
  refine List.forall_mem_cons.mpr ⟨⟨⟨by decide, zW_in 385 (by decide +kernel) (by decide +kernel), zW_in 61 (by decide +kernel) (by decide +kernel)⟩, ⟨_, List.mem_of_getElem? (i := 656) (by rfl)⟩, zXA_0⟩, ?_⟩
  refine List.forall_mem_cons.mpr ⟨⟨⟨by decide, zW_in 385 (by decide +kernel) (by decide +kernel), zW_in 61 (by decide +kernel) (by decide +kernel)⟩, ⟨_, List.mem_of_getElem? (i := 657) (by rfl)⟩, zXA_0⟩, ?_⟩
  refine List.forall_mem_cons.mpr ⟨⟨⟨by decide, zW_in 385 (by decide +kernel) (by decide +kernel), zW_in 61 (by decide +kernel) (by decide +kernel)⟩, ⟨_, List.mem_of_getElem? (i := 995) (by rfl)⟩, zXA_0⟩, ?_⟩
  refine List.forall_mem_cons.mpr ⟨⟨⟨by decide, zW_in 385 (by decide +kernel) (by decide +kernel), zW_in 61 (by decide +kernel) (by decide +kernel)⟩, ⟨_, List.mem_of_getElem? (i := 1003) (by rfl)⟩, zXA_0⟩, ?_⟩
  refine List.forall_mem_cons.mpr ⟨⟨⟨by decide, zW_in 385 (by decide +kernel) (by decide +kernel), zW_in 61 (by decide +kernel) (by decide +kernel)⟩, ⟨_, List.mem_of_getElem? (i := 1004) (by rfl)⟩, zXA_0⟩, ?_⟩
  refine List.forall_mem_cons.mpr ⟨⟨⟨by decide, zW_in 385 (by decide +kernel) (by decide +kernel), zW_in 61 (by decide +kernel) (by decide +kernel)⟩, ⟨_, List.mem_of_getElem? (i := 428) (by rfl)⟩, zXA_0⟩, ?_⟩
  refine List.forall_mem_cons.mpr ⟨⟨⟨by decide, zW_in 385 (by decide +kernel) (by decide +kernel), zW_in 61 (by decide +kernel) (by decide +kernel)⟩, ⟨_, List.mem_of_getElem? (i := 454) (by rfl)⟩, zXA_0⟩, ?_⟩
  refine List.forall_mem_cons.mpr ⟨⟨⟨by decide, zW_in 385 (by decide +kernel) (by decide +kernel), zW_in 61 (by decide +kernel) (by decide +kernel)⟩, ⟨_, List.mem_of_getElem? (i := 455) (by rfl)⟩, zXA_0⟩, ?_⟩
  refine List.forall_mem_cons.mpr ⟨⟨⟨by decide, zW_in 385 (by decide +kernel) (by decide +kernel), zW_in 61 (by decide +kernel) (by decide +kernel)⟩, ⟨_, List.mem_of_getElem? (i := 1125) (by rfl)⟩, zXA_0⟩, ?_⟩
  refine List.forall_mem_cons.mpr ⟨⟨⟨by decide, zW_in 385 (by decide +kernel) (by decide +kernel), zW_in 61 (by decide +kernel) (by decide +kernel)⟩, ⟨_, List.mem_of_getElem? (i := 1166) (by rfl)⟩, zXA_0⟩, ?_⟩
  refine List.forall_mem_cons.mpr ⟨⟨⟨by decide, zW_in 460 (by decide +kernel) (by decide +kernel), zW_in 63 (by decide +kernel) (by decide +kernel)⟩, ⟨_, List.mem_of_getElem? (i := 481) (by rfl)⟩, zXA_1⟩, ?_⟩
  refine List.forall_mem_cons.mpr ⟨⟨⟨by decide, zW_in 460 (by decide +kernel) (by decide +kernel), zW_in 63 (by decide +kernel) (by decide +kernel)⟩, ⟨_, List.mem_of_getElem? (i := 658) (by rfl)⟩, zXA_1⟩, ?_⟩
  refine List.forall_mem_cons.mpr ⟨⟨⟨by decide, zW_in 460 (by decide +kernel) (by decide +kernel), zW_in 63 (by decide +kernel) (by decide +kernel)⟩, ⟨_, List.mem_of_getElem? (i := 1005) (by rfl)⟩, zXA_1⟩, ?_⟩
  refine List.forall_mem_cons.mpr ⟨⟨⟨by decide, zW_in 460 (by decide +kernel) (by decide +kernel), zW_in 63 (by decide +kernel) (by decide +kernel)⟩, ⟨_, List.mem_of_getElem? (i := 1199) (by rfl)⟩, zXA_1⟩, ?_⟩
  refine List.forall_mem_cons.mpr ⟨⟨⟨by decide, zW_in 460 (by decide +kernel) (by decide +kernel), zW_in 63 (by decide +kernel) (by decide +kernel)⟩, ⟨_, List.mem_of_getElem? (i := 469) (by rfl)⟩, zXA_1⟩, ?_⟩
  refine List.forall_mem_cons.mpr ⟨⟨⟨by decide, zW_in 611 (by decide +kernel) (by decide +kernel), zW_in 46 (by decide +kernel) (by decide +kernel)⟩, ⟨_, List.mem_of_getElem? (i := 655) (by rfl)⟩, zXA_2⟩, ?_⟩
  refine List.forall_mem_cons.mpr ⟨⟨⟨by decide, zW_in 611 (by decide +kernel) (by decide +kernel), zW_in 46 (by decide +kernel) (by decide +kernel)⟩, ⟨_, List.mem_of_getElem? (i := 1065) (by rfl)⟩, zXA_2⟩, ?_⟩
  refine List.forall_mem_cons.mpr ⟨⟨⟨by decide, zW_in 611 (by decide +kernel) (by decide +kernel), zW_in 46 (by decide +kernel) (by decide +kernel)⟩, ⟨_, List.mem_of_getElem? (i := 620) (by rfl)⟩, zXA_2⟩, ?_⟩
  refine List.forall_mem_cons.mpr ⟨⟨⟨by decide, zW_in 611 (by decide +kernel) (by decide +kernel), zW_in 46 (by decide +kernel) (by decide +kernel)⟩, ⟨_, List.mem_of_getElem? (i := 964) (by rfl)⟩, zXA_2⟩, ?_⟩
  refine List.forall_mem_cons.mpr ⟨⟨⟨by decide, zW_in 611 (by decide +kernel) (by decide +kernel), zW_in 46 (by decide +kernel) (by decide +kernel)⟩, ⟨_, List.mem_of_getElem? (i := 1092) (by rfl)⟩, zXA_2⟩, ?_⟩
  refine List.forall_mem_cons.mpr ⟨⟨⟨by decide, zW_in 611 (by decide +kernel) (by decide +kernel), zW_in 46 (by decide +kernel) (by decide +kernel)⟩, ⟨_, List.mem_of_getElem? (i := 1110) (by rfl)⟩, zXA_2⟩, ?_⟩
  refine List.forall_mem_cons.mpr ⟨⟨⟨by decide, zW_in 1041 (by decide +kernel) (by decide +kernel), zW_in 51 (by decide +kernel) (by decide +kernel)⟩, ⟨_, List.mem_of_getElem? (i := 1080) (by rfl)⟩, zXA_3⟩, ?_⟩
  refine List.forall_mem_cons.mpr ⟨⟨⟨by decide, zW_in 1041 (by decide +kernel) (by decide +kernel), zW_in 51 (by decide +kernel) (by decide +kernel)⟩, ⟨_, List.mem_of_getElem? (i := 1167) (by rfl)⟩, zXA_3⟩, ?_⟩
  refine List.forall_mem_cons.mpr ⟨⟨⟨by decide, zW_in 1041 (by decide +kernel) (by decide +kernel), zW_in 51 (by decide +kernel) (by decide +kernel)⟩, ⟨_, List.mem_of_getElem? (i := 1191) (by rfl)⟩, zXA_3⟩, ?_⟩
  refine List.forall_mem_cons.mpr ⟨⟨⟨by decide, zW_in 1041 (by decide +kernel) (by decide +kernel), zW_in 51 (by decide +kernel) (by decide +kernel)⟩, ⟨_, List.mem_of_getElem? (i := 1221) (by rfl)⟩, zXA_3⟩, ?_⟩
  refine List.forall_mem_cons.mpr ⟨⟨⟨by decide, zW_in 1041 (by decide +kernel) (by decide +kernel), zW_in 51 (by decide +kernel) (by decide +kernel)⟩, ⟨_, List.mem_of_getElem? (i := 1050) (by rfl)⟩, zXA_3⟩, ?_⟩
  refine List.forall_mem_cons.mpr ⟨⟨⟨by decide, zW_in 1041 (by decide +kernel) (by decide +kernel), zW_in 51 (by decide +kernel) (by decide +kernel)⟩, ⟨_, List.mem_of_getElem? (i := 1257) (by rfl)⟩, zXA_3⟩, ?_⟩
  refine List.forall_mem_cons.mpr ⟨⟨⟨by decide, zW_in 627 (by decide +kernel) (by decide +kernel), zW_in 62 (by decide +kernel) (by decide +kernel)⟩, ⟨_, List.mem_of_getElem? (i := 636) (by rfl)⟩, zXA_4⟩, ?_⟩
  exact fun x h => absurd h List.not_mem_nil
def zHOK (k E lo hi n nx hp : Nat) : Prop := (∃ (pre suf : List (Nat × Nat × Nat × Nat)) (ct : Nat), zHH k = some (pre ++ (lo, hi, hp, ct) :: suf) ∧ ct ≠ 0 ∧ (Cond.classLink (zY k).cls ct (zEx E) : Jvm.Cond) ∈ zW ∧ ∀ z ∈ pre, z.2.2.2 ≠ 0 ∧ ∃ F, F ∈ zExs ∧ zEx E ≠ F ∧ (Cond.classLink (zY k).cls z.2.2.2 F : Jvm.Cond) ∈ zW) ∧ E < 5 ∧ n < zML k ∧ ((decode (zB k) hp = .ok (.astore n, 2) ∧ nx = hp + 2) ∨ (∃ f : Fin 4, (f : Nat) = n ∧ decode (zB k) hp = .ok (.astore_n f, 1) ∧ nx = hp + 1))
set_option maxRecDepth 20000 in
theorem zHs_ok : ∀ x ∈ zHs, zrl x.1 = true → zHOK x.1 x.2.1 x.2.2.1 x.2.2.2.1 x.2.2.2.2.1 x.2.2.2.2.2.1 x.2.2.2.2.2.2 := by
  unfold zHs
  refine List.forall_mem_cons.mpr ⟨fun q => absurd q (by decide), ?_⟩
  refine List.forall_mem_cons.mpr ⟨fun q => absurd q (by decide), ?_⟩
  refine List.forall_mem_cons.mpr ⟨fun q => absurd q (by decide), ?_⟩
  refine List.forall_mem_cons.mpr ⟨fun q => absurd q (by decide), ?_⟩
  refine List.forall_mem_cons.mpr ⟨fun q => absurd q (by decide), ?_⟩
  refine List.forall_mem_cons.mpr ⟨fun q => absurd q (by decide), ?_⟩
  refine List.forall_mem_cons.mpr ⟨fun q => absurd q (by decide), ?_⟩
  refine List.forall_mem_cons.mpr ⟨fun q => absurd q (by decide), ?_⟩
  refine List.forall_mem_cons.mpr ⟨fun q => absurd q (by decide), ?_⟩
  refine List.forall_mem_cons.mpr ⟨fun q => absurd q (by decide), ?_⟩
  refine List.forall_mem_cons.mpr ⟨fun q => absurd q (by decide), ?_⟩
  refine List.forall_mem_cons.mpr ⟨fun q => absurd q (by decide), ?_⟩
  refine List.forall_mem_cons.mpr ⟨fun q => absurd q (by decide), ?_⟩
  refine List.forall_mem_cons.mpr ⟨fun q => absurd q (by decide), ?_⟩
  refine List.forall_mem_cons.mpr ⟨fun q => absurd q (by decide), ?_⟩
  refine List.forall_mem_cons.mpr ⟨fun q => absurd q (by decide), ?_⟩
  refine List.forall_mem_cons.mpr ⟨fun q => absurd q (by decide), ?_⟩
  refine List.forall_mem_cons.mpr ⟨fun q => absurd q (by decide), ?_⟩
  refine List.forall_mem_cons.mpr ⟨fun q => absurd q (by decide), ?_⟩
  refine List.forall_mem_cons.mpr ⟨fun q => absurd q (by decide), ?_⟩
  refine List.forall_mem_cons.mpr ⟨fun q => absurd q (by decide), ?_⟩
  refine List.forall_mem_cons.mpr ⟨fun q => absurd q (by decide), ?_⟩
  refine List.forall_mem_cons.mpr ⟨fun q => absurd q (by decide), ?_⟩
  refine List.forall_mem_cons.mpr ⟨fun q => absurd q (by decide), ?_⟩
  refine List.forall_mem_cons.mpr ⟨fun q => absurd q (by decide), ?_⟩
  refine List.forall_mem_cons.mpr ⟨fun q => absurd q (by decide), ?_⟩
  refine List.forall_mem_cons.mpr ⟨fun q => absurd q (by decide), ?_⟩
  refine List.forall_mem_cons.mpr ⟨fun q => absurd q (by decide), ?_⟩
  refine List.forall_mem_cons.mpr ⟨fun q => absurd q (by decide), ?_⟩
  refine List.forall_mem_cons.mpr ⟨fun q => absurd q (by decide), ?_⟩
  refine List.forall_mem_cons.mpr ⟨fun q => absurd q (by decide), ?_⟩
  refine List.forall_mem_cons.mpr ⟨fun q => absurd q (by decide), ?_⟩
  refine List.forall_mem_cons.mpr ⟨fun q => absurd q (by decide), ?_⟩
  refine List.forall_mem_cons.mpr ⟨fun q => absurd q (by decide), ?_⟩
  refine List.forall_mem_cons.mpr ⟨fun q => absurd q (by decide), ?_⟩
  refine List.forall_mem_cons.mpr ⟨fun q => absurd q (by decide), ?_⟩
  refine List.forall_mem_cons.mpr ⟨fun q => absurd q (by decide), ?_⟩
  refine List.forall_mem_cons.mpr ⟨fun q => absurd q (by decide), ?_⟩
  refine List.forall_mem_cons.mpr ⟨fun q => absurd q (by decide), ?_⟩
  refine List.forall_mem_cons.mpr ⟨fun q => absurd q (by decide), ?_⟩
  refine List.forall_mem_cons.mpr ⟨fun q => absurd q (by decide), ?_⟩
  refine List.forall_mem_cons.mpr ⟨fun q => absurd q (by decide), ?_⟩
  refine List.forall_mem_cons.mpr ⟨fun q => absurd q (by decide), ?_⟩
  refine List.forall_mem_cons.mpr ⟨fun q => absurd q (by decide), ?_⟩
  refine List.forall_mem_cons.mpr ⟨fun q => absurd q (by decide), ?_⟩
  refine List.forall_mem_cons.mpr ⟨fun q => absurd q (by decide), ?_⟩
  refine List.forall_mem_cons.mpr ⟨fun q => absurd q (by decide), ?_⟩
  refine List.forall_mem_cons.mpr ⟨fun q => absurd q (by decide), ?_⟩
  refine List.forall_mem_cons.mpr ⟨fun q => absurd q (by decide), ?_⟩
  refine List.forall_mem_cons.mpr ⟨fun _ => ⟨⟨[], [(0, 28, 35, 19)], 17, rfl, by decide, zW_in 376 (by decide +kernel) (by decide +kernel), fun z hz => by exact absurd hz List.not_mem_nil⟩, by decide, by decide, Or.inl ⟨by decide +kernel, rfl⟩⟩, ?_⟩
  refine List.forall_mem_cons.mpr ⟨fun _ => ⟨⟨[(0, 28, 29, 17)], [], 19, rfl, by decide, zW_in 377 (by decide +kernel) (by decide +kernel), fun z hz => by simp only [List.mem_cons, List.not_mem_nil, or_false] at hz; rcases hz with rfl; exact ⟨by decide, "java/lang/IllegalArgumentException", by decide, by decide, zW_in 376 (by decide +kernel) (by decide +kernel)⟩⟩, by decide, by decide, Or.inl ⟨by decide +kernel, rfl⟩⟩, ?_⟩
  refine List.forall_mem_cons.mpr ⟨fun _ => ⟨⟨[], [(0, 20, 26, 31), (0, 20, 31, 17)], 29, rfl, by decide, zW_in 597 (by decide +kernel) (by decide +kernel), fun z hz => by exact absurd hz List.not_mem_nil⟩, by decide, by decide, Or.inr ⟨3, rfl, by decide +kernel, rfl⟩⟩, ?_⟩
  refine List.forall_mem_cons.mpr ⟨fun _ => ⟨⟨[(0, 20, 21, 29)], [(0, 20, 31, 17)], 31, rfl, by decide, zW_in 598 (by decide +kernel) (by decide +kernel), fun z hz => by simp only [List.mem_cons, List.not_mem_nil, or_false] at hz; rcases hz with rfl; exact ⟨by decide, "java/lang/IndexOutOfBoundsException", by decide, by decide, zW_in 597 (by decide +kernel) (by decide +kernel)⟩⟩, by decide, by decide, Or.inr ⟨3, rfl, by decide +kernel, rfl⟩⟩, ?_⟩
  refine List.forall_mem_cons.mpr ⟨fun _ => ⟨⟨[(0, 20, 21, 29), (0, 20, 26, 31)], [], 17, rfl, by decide, zW_in 376 (by decide +kernel) (by decide +kernel), fun z hz => by simp only [List.mem_cons, List.not_mem_nil, or_false] at hz; rcases hz with rfl | rfl; exact ⟨by decide, "java/lang/IndexOutOfBoundsException", by decide, by decide, zW_in 597 (by decide +kernel) (by decide +kernel)⟩; exact ⟨by decide, "java/lang/UnsupportedOperationException", by decide, by decide, zW_in 598 (by decide +kernel) (by decide +kernel)⟩⟩, by decide, by decide, Or.inr ⟨3, rfl, by decide +kernel, rfl⟩⟩, ?_⟩
  refine List.forall_mem_cons.mpr ⟨fun _ => ⟨⟨[], [(0, 9, 16, 31), (0, 9, 22, 17), (0, 9, 28, 19)], 29, rfl, by decide, zW_in 597 (by decide +kernel) (by decide +kernel), fun z hz => by exact absurd hz List.not_mem_nil⟩, by decide, by decide, Or.inl ⟨by decide +kernel, rfl⟩⟩, ?_⟩
  refine List.forall_mem_cons.mpr ⟨fun _ => ⟨⟨[(0, 9, 10, 29)], [(0, 9, 22, 17), (0, 9, 28, 19)], 31, rfl, by decide, zW_in 598 (by decide +kernel) (by decide +kernel), fun z hz => by simp only [List.mem_cons, List.not_mem_nil, or_false] at hz; rcases hz with rfl; exact ⟨by decide, "java/lang/IndexOutOfBoundsException", by decide, by decide, zW_in 597 (by decide +kernel) (by decide +kernel)⟩⟩, by decide, by decide, Or.inl ⟨by decide +kernel, rfl⟩⟩, ?_⟩
  refine List.forall_mem_cons.mpr ⟨fun _ => ⟨⟨[(0, 9, 10, 29), (0, 9, 16, 31)], [(0, 9, 28, 19)], 17, rfl, by decide, zW_in 376 (by decide +kernel) (by decide +kernel), fun z hz => by simp only [List.mem_cons, List.not_mem_nil, or_false] at hz; rcases hz with rfl | rfl; exact ⟨by decide, "java/lang/IndexOutOfBoundsException", by decide, by decide, zW_in 597 (by decide +kernel) (by decide +kernel)⟩; exact ⟨by decide, "java/lang/UnsupportedOperationException", by decide, by decide, zW_in 598 (by decide +kernel) (by decide +kernel)⟩⟩, by decide, by decide, Or.inl ⟨by decide +kernel, rfl⟩⟩, ?_⟩
  refine List.forall_mem_cons.mpr ⟨fun _ => ⟨⟨[(0, 9, 10, 29), (0, 9, 16, 31), (0, 9, 22, 17)], [], 19, rfl, by decide, zW_in 377 (by decide +kernel) (by decide +kernel), fun z hz => by simp only [List.mem_cons, List.not_mem_nil, or_false] at hz; rcases hz with rfl | rfl | rfl; exact ⟨by decide, "java/lang/IndexOutOfBoundsException", by decide, by decide, zW_in 597 (by decide +kernel) (by decide +kernel)⟩; exact ⟨by decide, "java/lang/UnsupportedOperationException", by decide, by decide, zW_in 598 (by decide +kernel) (by decide +kernel)⟩; exact ⟨by decide, "java/lang/IllegalArgumentException", by decide, by decide, zW_in 376 (by decide +kernel) (by decide +kernel)⟩⟩, by decide, by decide, Or.inl ⟨by decide +kernel, rfl⟩⟩, ?_⟩
  refine List.forall_mem_cons.mpr ⟨fun _ => ⟨⟨[], [], 29, rfl, by decide, zW_in 597 (by decide +kernel) (by decide +kernel), fun z hz => by exact absurd hz List.not_mem_nil⟩, by decide, by decide, Or.inl ⟨by decide +kernel, rfl⟩⟩, ?_⟩
  refine List.forall_mem_cons.mpr ⟨fun _ => ⟨⟨[], [(0, 6, 12, 17)], 29, rfl, by decide, zW_in 597 (by decide +kernel) (by decide +kernel), fun z hz => by exact absurd hz List.not_mem_nil⟩, by decide, by decide, Or.inr ⟨3, rfl, by decide +kernel, rfl⟩⟩, ?_⟩
  refine List.forall_mem_cons.mpr ⟨fun _ => ⟨⟨[(0, 6, 7, 29)], [], 17, rfl, by decide, zW_in 376 (by decide +kernel) (by decide +kernel), fun z hz => by simp only [List.mem_cons, List.not_mem_nil, or_false] at hz; rcases hz with rfl; exact ⟨by decide, "java/lang/IndexOutOfBoundsException", by decide, by decide, zW_in 597 (by decide +kernel) (by decide +kernel)⟩⟩, by decide, by decide, Or.inr ⟨3, rfl, by decide +kernel, rfl⟩⟩, ?_⟩
  refine List.forall_mem_cons.mpr ⟨fun _ => ⟨⟨[], [(0, 9, 16, 17), (0, 9, 22, 19)], 29, rfl, by decide, zW_in 597 (by decide +kernel) (by decide +kernel), fun z hz => by exact absurd hz List.not_mem_nil⟩, by decide, by decide, Or.inl ⟨by decide +kernel, rfl⟩⟩, ?_⟩
  refine List.forall_mem_cons.mpr ⟨fun _ => ⟨⟨[(0, 9, 10, 29)], [(0, 9, 22, 19)], 17, rfl, by decide, zW_in 376 (by decide +kernel) (by decide +kernel), fun z hz => by simp only [List.mem_cons, List.not_mem_nil, or_false] at hz; rcases hz with rfl; exact ⟨by decide, "java/lang/IndexOutOfBoundsException", by decide, by decide, zW_in 597 (by decide +kernel) (by decide +kernel)⟩⟩, by decide, by decide, Or.inl ⟨by decide +kernel, rfl⟩⟩, ?_⟩
  refine List.forall_mem_cons.mpr ⟨fun _ => ⟨⟨[(0, 9, 10, 29), (0, 9, 16, 17)], [], 19, rfl, by decide, zW_in 377 (by decide +kernel) (by decide +kernel), fun z hz => by simp only [List.mem_cons, List.not_mem_nil, or_false] at hz; rcases hz with rfl | rfl; exact ⟨by decide, "java/lang/IndexOutOfBoundsException", by decide, by decide, zW_in 597 (by decide +kernel) (by decide +kernel)⟩; exact ⟨by decide, "java/lang/IllegalArgumentException", by decide, by decide, zW_in 376 (by decide +kernel) (by decide +kernel)⟩⟩, by decide, by decide, Or.inl ⟨by decide +kernel, rfl⟩⟩, ?_⟩
  refine List.forall_mem_cons.mpr ⟨fun _ => ⟨⟨[], [], 29, rfl, by decide, zW_in 597 (by decide +kernel) (by decide +kernel), fun z hz => by exact absurd hz List.not_mem_nil⟩, by decide, by decide, Or.inr ⟨2, rfl, by decide +kernel, rfl⟩⟩, ?_⟩
  refine List.forall_mem_cons.mpr ⟨fun _ => ⟨⟨[], [(0, 33, 39, 66)], 29, rfl, by decide, zW_in 597 (by decide +kernel) (by decide +kernel), fun z hz => by exact absurd hz List.not_mem_nil⟩, by decide, by decide, Or.inr ⟨3, rfl, by decide +kernel, rfl⟩⟩, ?_⟩
  refine List.forall_mem_cons.mpr ⟨fun _ => ⟨⟨[(0, 33, 34, 29)], [], 66, rfl, by decide, zW_in 1032 (by decide +kernel) (by decide +kernel), fun z hz => by simp only [List.mem_cons, List.not_mem_nil, or_false] at hz; rcases hz with rfl; exact ⟨by decide, "java/lang/IndexOutOfBoundsException", by decide, by decide, zW_in 597 (by decide +kernel) (by decide +kernel)⟩⟩, by decide, by decide, Or.inr ⟨3, rfl, by decide +kernel, rfl⟩⟩, ?_⟩
  refine List.forall_mem_cons.mpr ⟨fun _ => ⟨⟨[], [], 29, rfl, by decide, zW_in 597 (by decide +kernel) (by decide +kernel), fun z hz => by exact absurd hz List.not_mem_nil⟩, by decide, by decide, Or.inr ⟨3, rfl, by decide +kernel, rfl⟩⟩, ?_⟩
  refine List.forall_mem_cons.mpr ⟨fun _ => ⟨⟨[], [], 17, rfl, by decide, zW_in 376 (by decide +kernel) (by decide +kernel), fun z hz => by exact absurd hz List.not_mem_nil⟩, by decide, by decide, Or.inr ⟨3, rfl, by decide +kernel, rfl⟩⟩, ?_⟩
  refine List.forall_mem_cons.mpr ⟨fun _ => ⟨⟨[], [(0, 36, 43, 66)], 17, rfl, by decide, zW_in 376 (by decide +kernel) (by decide +kernel), fun z hz => by exact absurd hz List.not_mem_nil⟩, by decide, by decide, Or.inl ⟨by decide +kernel, rfl⟩⟩, ?_⟩
  refine List.forall_mem_cons.mpr ⟨fun _ => ⟨⟨[(0, 36, 37, 17)], [], 66, rfl, by decide, zW_in 1032 (by decide +kernel) (by decide +kernel), fun z hz => by simp only [List.mem_cons, List.not_mem_nil, or_false] at hz; rcases hz with rfl; exact ⟨by decide, "java/lang/IllegalArgumentException", by decide, by decide, zW_in 376 (by decide +kernel) (by decide +kernel)⟩⟩, by decide, by decide, Or.inl ⟨by decide +kernel, rfl⟩⟩, ?_⟩
  refine List.forall_mem_cons.mpr ⟨fun _ => ⟨⟨[], [(0, 6, 11, 66)], 17, rfl, by decide, zW_in 376 (by decide +kernel) (by decide +kernel), fun z hz => by exact absurd hz List.not_mem_nil⟩, by decide, by decide, Or.inr ⟨3, rfl, by decide +kernel, rfl⟩⟩, ?_⟩
  refine List.forall_mem_cons.mpr ⟨fun _ => ⟨⟨[(0, 6, 7, 17)], [], 66, rfl, by decide, zW_in 1032 (by decide +kernel) (by decide +kernel), fun z hz => by simp only [List.mem_cons, List.not_mem_nil, or_false] at hz; rcases hz with rfl; exact ⟨by decide, "java/lang/IllegalArgumentException", by decide, by decide, zW_in 376 (by decide +kernel) (by decide +kernel)⟩⟩, by decide, by decide, Or.inr ⟨3, rfl, by decide +kernel, rfl⟩⟩, ?_⟩
  refine List.forall_mem_cons.mpr ⟨fun _ => ⟨⟨[], [], 66, rfl, by decide, zW_in 1032 (by decide +kernel) (by decide +kernel), fun z hz => by exact absurd hz List.not_mem_nil⟩, by decide, by decide, Or.inr ⟨1, rfl, by decide +kernel, rfl⟩⟩, ?_⟩
  refine List.forall_mem_cons.mpr ⟨fun _ => ⟨⟨[], [], 66, rfl, by decide, zW_in 1032 (by decide +kernel) (by decide +kernel), fun z hz => by exact absurd hz List.not_mem_nil⟩, by decide, by decide, Or.inr ⟨1, rfl, by decide +kernel, rfl⟩⟩, ?_⟩
  refine List.forall_mem_cons.mpr ⟨fun _ => ⟨⟨[], [], 19, rfl, by decide, zW_in 377 (by decide +kernel) (by decide +kernel), fun z hz => by exact absurd hz List.not_mem_nil⟩, by decide, by decide, Or.inr ⟨1, rfl, by decide +kernel, rfl⟩⟩, ?_⟩
  refine List.forall_mem_cons.mpr ⟨fun _ => ⟨⟨[], [], 66, rfl, by decide, zW_in 1032 (by decide +kernel) (by decide +kernel), fun z hz => by exact absurd hz List.not_mem_nil⟩, by decide, by decide, Or.inr ⟨1, rfl, by decide +kernel, rfl⟩⟩, ?_⟩
  refine List.forall_mem_cons.mpr ⟨fun _ => ⟨⟨[], [], 29, rfl, by decide, zW_in 597 (by decide +kernel) (by decide +kernel), fun z hz => by exact absurd hz List.not_mem_nil⟩, by decide, by decide, Or.inr ⟨2, rfl, by decide +kernel, rfl⟩⟩, ?_⟩
  exact fun x h => absurd h List.not_mem_nil
theorem zhl_mem : ∀ {l : List (Nat × Nat × Nat × Nat × Nat × Nat × Nat)} {k e pc n nx : Nat}, zhl l k e pc = some (n, nx) → ∃ lo hi hp, (k, e, lo, hi, n, nx, hp) ∈ l ∧ lo ≤ pc ∧ pc < hi
  | [], _, _, _, _, _, h => nomatch h
  | (a, b, lo, hi, n', nx', hp) :: l, k, e, pc, n, nx, h => by
    unfold zhl at h
    by_cases hc : (Nat.beq a k && Nat.beq b e && Nat.ble lo pc && Nat.blt pc hi) = true
    · rw [hc, cond_true] at h
      cases h
      simp only [Bool.and_eq_true] at hc
      obtain ⟨⟨⟨h1, h2⟩, h3⟩, h4⟩ := hc
      rw [← Nat.eq_of_beq_eq_true h1, ← Nat.eq_of_beq_eq_true h2]
      exact ⟨lo, hi, hp, List.mem_cons_self, Nat.le_of_ble_eq_true h3, Nat.le_of_ble_eq_true h4⟩
    · rw [Bool.eq_false_iff.mpr hc, cond_false] at h
      obtain ⟨lo', hi', hp', h1, h2⟩ := zhl_mem h
      exact ⟨lo', hi', hp', List.mem_cons_of_mem _ h1, h2⟩
/-- a return's entry -/
def zok1 (k pc : Nat) (i : Instr) (t : Nat) : Prop := zdec k pc i ∧ ((t = 8 ∧ i = .return_ ∧ zRT k = none) ∨ (t < 4 ∧ i = .ireturn ∧ ∃ ty, zRT k = some ty ∧ ztag ty = t) ∨ (t = 5 ∧ i = .freturn ∧ zRT k = some .float) ∨ (t = 7 ∧ i = .areturn ∧ ∃ ty, zRT k = some ty ∧ ztag ty = 7) ∨ (t = 4 ∧ i = .lreturn ∧ zRT k = some .long))
/-- a call's entry -/
def zok2 (k pc : Nat) (i : Instr) (nx j n ml rk : Nat) : Prop := zdec k pc i ∧ nx = pc + 3 ∧ zML j = ml ∧ zRK j < zRK k ∧ ml ≤ 20 ∧ (zrl j = true ∧ n ≤ ml) ∧ match i with
  | .invokestatic idx => (zOI k, idx, j, rk, n) ∈ zMTab ∧ rk = 0
  | .invokespecial idx => (zOI k, idx, j, rk, n) ∈ zMTab ∧ rk = 100
  | .invokevirtual idx => (zOI k, idx, j, rk, n) ∈ zMTab ∧ rk ≠ 0 ∧ rk ≠ 100
  | _ => False
/-- a throw's entry -/
def zok3 (k pc E ik is ic w : Nat) : Prop := zHH k = none ∧ (zOI k, ik, is, ic, E) ∈ zXTab ∧ decode (zB k) pc = .ok (.new ik, 3) ∧ decode (zB k) (pc + 3) = .ok (.dup, 1) ∧
  ((w = 0 ∧ decode (zB k) (pc + 4) = .ok (.ldc is, 2) ∧ decode (zB k) (pc + 6) = .ok (.invokespecial ic, 3) ∧ decode (zB k) (pc + 9) = .ok (.athrow, 1)) ∨
   (w = 1 ∧ decode (zB k) (pc + 4) = .ok (.ldc_w is, 3) ∧ decode (zB k) (pc + 7) = .ok (.invokespecial ic, 3) ∧ decode (zB k) (pc + 10) = .ok (.athrow, 1)))
/-- what an entry must be, of any sort -/
def zok (k pc : Nat) (e : zE) : Prop := match e with
  | (0, i, nx, tg, aux) => zok0 k pc i nx tg aux
  | (1, i, _, _, [t]) => zok1 k pc i t
  | (2, i, nx, _, [j, n, ml, rk]) => zok2 k pc i nx j n ml rk
  | (3, _, _, _, [E, ik, is, ic, w]) => zok3 k pc E ik is ic w
  | _ => False

/-! calls, throws, returns: what the table must say of them -/
def zEx (e : Nat) : String := (["java/lang/IllegalArgumentException", "java/lang/IllegalStateException", "java/lang/IndexOutOfBoundsException", "java/lang/UnsupportedOperationException", "java/util/NoSuchElementException"] : List String).getD e ""
/-- the head of a method's words -/
def zHd (k : Nat) : Jvm.Cond := match zHH k with
  | none => .code (zY k) (zB k) (zML k) (zRT k)
  | some hh => .codeWith (zY k) (zB k) (zML k) (zRT k) hh
def zCl : List Nat := [0, 1, 2, 3, 4, 5, 6, 7, 8, 9, 10, 11, 12, 13, 14, 15, 16, 17, 18, 19, 20, 21, 22, 23, 24, 25, 26, 27, 28, 29, 30, 31, 32, 33, 34, 35, 36, 37, 38, 39, 40, 41, 42, 43, 44, 45, 46, 47, 48, 49, 50, 51, 52, 53, 54, 55, 56, 57, 58, 59, 60, 61, 62, 63, 64, 65, 66, 67, 68, 69, 70, 71, 72, 73, 74, 75, 76, 77, 78, 79, 80, 81, 82, 83, 84, 85, 86, 87, 88, 89, 90, 91, 92, 93, 94, 95, 96, 97, 98, 99, 100, 101, 164, 165, 166, 167, 168, 169, 170, 171, 172, 173, 174, 175, 176, 177, 178, 179, 180, 181, 182, 186, 187, 220, 221, 222, 223, 224, 225, 226, 227, 228, 229, 230, 231, 232, 233, 234, 235, 236, 237, 238, 239, 240, 241, 242]
def zClOK (j : Nat) : Prop := zHd j ∈ zW
set_option maxRecDepth 20000 in
theorem zCl_ok : ∀ x ∈ zCl, zClOK x := by
  unfold zCl
  refine List.forall_mem_cons.mpr ⟨zW_in 485 (by decide +kernel) (by decide +kernel), ?_⟩
  refine List.forall_mem_cons.mpr ⟨zW_in 241 (by decide +kernel) (by decide +kernel), ?_⟩
  refine List.forall_mem_cons.mpr ⟨zW_in 662 (by decide +kernel) (by decide +kernel), ?_⟩
  refine List.forall_mem_cons.mpr ⟨zW_in 233 (by decide +kernel) (by decide +kernel), ?_⟩
  refine List.forall_mem_cons.mpr ⟨zW_in 342 (by decide +kernel) (by decide +kernel), ?_⟩
  refine List.forall_mem_cons.mpr ⟨zW_in 337 (by decide +kernel) (by decide +kernel), ?_⟩
  refine List.forall_mem_cons.mpr ⟨zW_in 256 (by decide +kernel) (by decide +kernel), ?_⟩
  refine List.forall_mem_cons.mpr ⟨zW_in 1146 (by decide +kernel) (by decide +kernel), ?_⟩
  refine List.forall_mem_cons.mpr ⟨zW_in 126 (by decide +kernel) (by decide +kernel), ?_⟩
  refine List.forall_mem_cons.mpr ⟨zW_in 584 (by decide +kernel) (by decide +kernel), ?_⟩
  refine List.forall_mem_cons.mpr ⟨zW_in 303 (by decide +kernel) (by decide +kernel), ?_⟩
  refine List.forall_mem_cons.mpr ⟨zW_in 317 (by decide +kernel) (by decide +kernel), ?_⟩
  refine List.forall_mem_cons.mpr ⟨zW_in 275 (by decide +kernel) (by decide +kernel), ?_⟩
  refine List.forall_mem_cons.mpr ⟨zW_in 307 (by decide +kernel) (by decide +kernel), ?_⟩
  refine List.forall_mem_cons.mpr ⟨zW_in 299 (by decide +kernel) (by decide +kernel), ?_⟩
  refine List.forall_mem_cons.mpr ⟨zW_in 264 (by decide +kernel) (by decide +kernel), ?_⟩
  refine List.forall_mem_cons.mpr ⟨zW_in 268 (by decide +kernel) (by decide +kernel), ?_⟩
  refine List.forall_mem_cons.mpr ⟨zW_in 279 (by decide +kernel) (by decide +kernel), ?_⟩
  refine List.forall_mem_cons.mpr ⟨zW_in 283 (by decide +kernel) (by decide +kernel), ?_⟩
  refine List.forall_mem_cons.mpr ⟨zW_in 291 (by decide +kernel) (by decide +kernel), ?_⟩
  refine List.forall_mem_cons.mpr ⟨zW_in 295 (by decide +kernel) (by decide +kernel), ?_⟩
  refine List.forall_mem_cons.mpr ⟨zW_in 287 (by decide +kernel) (by decide +kernel), ?_⟩
  refine List.forall_mem_cons.mpr ⟨zW_in 1186 (by decide +kernel) (by decide +kernel), ?_⟩
  refine List.forall_mem_cons.mpr ⟨zW_in 1181 (by decide +kernel) (by decide +kernel), ?_⟩
  refine List.forall_mem_cons.mpr ⟨zW_in 1010 (by decide +kernel) (by decide +kernel), ?_⟩
  refine List.forall_mem_cons.mpr ⟨zW_in 1069 (by decide +kernel) (by decide +kernel), ?_⟩
  refine List.forall_mem_cons.mpr ⟨zW_in 1078 (by decide +kernel) (by decide +kernel), ?_⟩
  refine List.forall_mem_cons.mpr ⟨zW_in 1073 (by decide +kernel) (by decide +kernel), ?_⟩
  refine List.forall_mem_cons.mpr ⟨zW_in 105 (by decide +kernel) (by decide +kernel), ?_⟩
  refine List.forall_mem_cons.mpr ⟨zW_in 214 (by decide +kernel) (by decide +kernel), ?_⟩
  refine List.forall_mem_cons.mpr ⟨zW_in 311 (by decide +kernel) (by decide +kernel), ?_⟩
  refine List.forall_mem_cons.mpr ⟨zW_in 325 (by decide +kernel) (by decide +kernel), ?_⟩
  refine List.forall_mem_cons.mpr ⟨zW_in 1203 (by decide +kernel) (by decide +kernel), ?_⟩
  refine List.forall_mem_cons.mpr ⟨zW_in 333 (by decide +kernel) (by decide +kernel), ?_⟩
  refine List.forall_mem_cons.mpr ⟨zW_in 350 (by decide +kernel) (by decide +kernel), ?_⟩
  refine List.forall_mem_cons.mpr ⟨zW_in 329 (by decide +kernel) (by decide +kernel), ?_⟩
  refine List.forall_mem_cons.mpr ⟨zW_in 358 (by decide +kernel) (by decide +kernel), ?_⟩
  refine List.forall_mem_cons.mpr ⟨zW_in 354 (by decide +kernel) (by decide +kernel), ?_⟩
  refine List.forall_mem_cons.mpr ⟨zW_in 1129 (by decide +kernel) (by decide +kernel), ?_⟩
  refine List.forall_mem_cons.mpr ⟨zW_in 1138 (by decide +kernel) (by decide +kernel), ?_⟩
  refine List.forall_mem_cons.mpr ⟨zW_in 1225 (by decide +kernel) (by decide +kernel), ?_⟩
  refine List.forall_mem_cons.mpr ⟨zW_in 71 (by decide +kernel) (by decide +kernel), ?_⟩
  refine List.forall_mem_cons.mpr ⟨zW_in 592 (by decide +kernel) (by decide +kernel), ?_⟩
  refine List.forall_mem_cons.mpr ⟨zW_in 381 (by decide +kernel) (by decide +kernel), ?_⟩
  refine List.forall_mem_cons.mpr ⟨zW_in 602 (by decide +kernel) (by decide +kernel), ?_⟩
  refine List.forall_mem_cons.mpr ⟨zW_in 646 (by decide +kernel) (by decide +kernel), ?_⟩
  refine List.forall_mem_cons.mpr ⟨zW_in 654 (by decide +kernel) (by decide +kernel), ?_⟩
  refine List.forall_mem_cons.mpr ⟨zW_in 959 (by decide +kernel) (by decide +kernel), ?_⟩
  refine List.forall_mem_cons.mpr ⟨zW_in 976 (by decide +kernel) (by decide +kernel), ?_⟩
  refine List.forall_mem_cons.mpr ⟨zW_in 994 (by decide +kernel) (by decide +kernel), ?_⟩
  refine List.forall_mem_cons.mpr ⟨zW_in 1002 (by decide +kernel) (by decide +kernel), ?_⟩
  refine List.forall_mem_cons.mpr ⟨zW_in 194 (by decide +kernel) (by decide +kernel), ?_⟩
  refine List.forall_mem_cons.mpr ⟨zW_in 983 (by decide +kernel) (by decide +kernel), ?_⟩
  refine List.forall_mem_cons.mpr ⟨zW_in 1028 (by decide +kernel) (by decide +kernel), ?_⟩
  refine List.forall_mem_cons.mpr ⟨zW_in 1036 (by decide +kernel) (by decide +kernel), ?_⟩
  refine List.forall_mem_cons.mpr ⟨zW_in 1060 (by decide +kernel) (by decide +kernel), ?_⟩
  refine List.forall_mem_cons.mpr ⟨zW_in 202 (by decide +kernel) (by decide +kernel), ?_⟩
  refine List.forall_mem_cons.mpr ⟨zW_in 1087 (by decide +kernel) (by decide +kernel), ?_⟩
  refine List.forall_mem_cons.mpr ⟨zW_in 1096 (by decide +kernel) (by decide +kernel), ?_⟩
  refine List.forall_mem_cons.mpr ⟨zW_in 1101 (by decide +kernel) (by decide +kernel), ?_⟩
  refine List.forall_mem_cons.mpr ⟨zW_in 1121 (by decide +kernel) (by decide +kernel), ?_⟩
  refine List.forall_mem_cons.mpr ⟨zW_in 1134 (by decide +kernel) (by decide +kernel), ?_⟩
  refine List.forall_mem_cons.mpr ⟨zW_in 346 (by decide +kernel) (by decide +kernel), ?_⟩
  refine List.forall_mem_cons.mpr ⟨zW_in 1142 (by decide +kernel) (by decide +kernel), ?_⟩
  refine List.forall_mem_cons.mpr ⟨zW_in 1064 (by decide +kernel) (by decide +kernel), ?_⟩
  refine List.forall_mem_cons.mpr ⟨zW_in 1273 (by decide +kernel) (by decide +kernel), ?_⟩
  refine List.forall_mem_cons.mpr ⟨zW_in 1252 (by decide +kernel) (by decide +kernel), ?_⟩
  refine List.forall_mem_cons.mpr ⟨zW_in 1158 (by decide +kernel) (by decide +kernel), ?_⟩
  refine List.forall_mem_cons.mpr ⟨zW_in 1177 (by decide +kernel) (by decide +kernel), ?_⟩
  refine List.forall_mem_cons.mpr ⟨zW_in 1190 (by decide +kernel) (by decide +kernel), ?_⟩
  refine List.forall_mem_cons.mpr ⟨zW_in 1285 (by decide +kernel) (by decide +kernel), ?_⟩
  refine List.forall_mem_cons.mpr ⟨zW_in 1198 (by decide +kernel) (by decide +kernel), ?_⟩
  refine List.forall_mem_cons.mpr ⟨zW_in 362 (by decide +kernel) (by decide +kernel), ?_⟩
  refine List.forall_mem_cons.mpr ⟨zW_in 366 (by decide +kernel) (by decide +kernel), ?_⟩
  refine List.forall_mem_cons.mpr ⟨zW_in 1105 (by decide +kernel) (by decide +kernel), ?_⟩
  refine List.forall_mem_cons.mpr ⟨zW_in 1114 (by decide +kernel) (by decide +kernel), ?_⟩
  refine List.forall_mem_cons.mpr ⟨zW_in 1220 (by decide +kernel) (by decide +kernel), ?_⟩
  refine List.forall_mem_cons.mpr ⟨zW_in 1234 (by decide +kernel) (by decide +kernel), ?_⟩
  refine List.forall_mem_cons.mpr ⟨zW_in 384 (by decide +kernel) (by decide +kernel), ?_⟩
  refine List.forall_mem_cons.mpr ⟨zW_in 459 (by decide +kernel) (by decide +kernel), ?_⟩
  refine List.forall_mem_cons.mpr ⟨zW_in 610 (by decide +kernel) (by decide +kernel), ?_⟩
  refine List.forall_mem_cons.mpr ⟨zW_in 963 (by decide +kernel) (by decide +kernel), ?_⟩
  refine List.forall_mem_cons.mpr ⟨zW_in 1091 (by decide +kernel) (by decide +kernel), ?_⟩
  refine List.forall_mem_cons.mpr ⟨zW_in 1109 (by decide +kernel) (by decide +kernel), ?_⟩
  refine List.forall_mem_cons.mpr ⟨zW_in 1124 (by decide +kernel) (by decide +kernel), ?_⟩
  refine List.forall_mem_cons.mpr ⟨zW_in 1165 (by decide +kernel) (by decide +kernel), ?_⟩
  refine List.forall_mem_cons.mpr ⟨zW_in 606 (by decide +kernel) (by decide +kernel), ?_⟩
  refine List.forall_mem_cons.mpr ⟨zW_in 987 (by decide +kernel) (by decide +kernel), ?_⟩
  refine List.forall_mem_cons.mpr ⟨zW_in 1040 (by decide +kernel) (by decide +kernel), ?_⟩
  refine List.forall_mem_cons.mpr ⟨zW_in 1162 (by decide +kernel) (by decide +kernel), ?_⟩
  refine List.forall_mem_cons.mpr ⟨zW_in 479 (by decide +kernel) (by decide +kernel), ?_⟩
  refine List.forall_mem_cons.mpr ⟨zW_in 206 (by decide +kernel) (by decide +kernel), ?_⟩
  refine List.forall_mem_cons.mpr ⟨zW_in 210 (by decide +kernel) (by decide +kernel), ?_⟩
  refine List.forall_mem_cons.mpr ⟨zW_in 237 (by decide +kernel) (by decide +kernel), ?_⟩
  refine List.forall_mem_cons.mpr ⟨zW_in 245 (by decide +kernel) (by decide +kernel), ?_⟩
  refine List.forall_mem_cons.mpr ⟨zW_in 260 (by decide +kernel) (by decide +kernel), ?_⟩
  refine List.forall_mem_cons.mpr ⟨zW_in 249 (by decide +kernel) (by decide +kernel), ?_⟩
  refine List.forall_mem_cons.mpr ⟨zW_in 321 (by decide +kernel) (by decide +kernel), ?_⟩
  refine List.forall_mem_cons.mpr ⟨zW_in 1209 (by decide +kernel) (by decide +kernel), ?_⟩
  refine List.forall_mem_cons.mpr ⟨zW_in 1213 (by decide +kernel) (by decide +kernel), ?_⟩
  refine List.forall_mem_cons.mpr ⟨zW_in 1256 (by decide +kernel) (by decide +kernel), ?_⟩
  refine List.forall_mem_cons.mpr ⟨zW_in 1260 (by decide +kernel) (by decide +kernel), ?_⟩
  refine List.forall_mem_cons.mpr ⟨zW_in 79 (by decide +kernel) (by decide +kernel), ?_⟩
  refine List.forall_mem_cons.mpr ⟨zW_in 525 (by decide +kernel) (by decide +kernel), ?_⟩
  refine List.forall_mem_cons.mpr ⟨zW_in 529 (by decide +kernel) (by decide +kernel), ?_⟩
  refine List.forall_mem_cons.mpr ⟨zW_in 710 (by decide +kernel) (by decide +kernel), ?_⟩
  refine List.forall_mem_cons.mpr ⟨zW_in 714 (by decide +kernel) (by decide +kernel), ?_⟩
  refine List.forall_mem_cons.mpr ⟨zW_in 537 (by decide +kernel) (by decide +kernel), ?_⟩
  refine List.forall_mem_cons.mpr ⟨zW_in 533 (by decide +kernel) (by decide +kernel), ?_⟩
  refine List.forall_mem_cons.mpr ⟨zW_in 218 (by decide +kernel) (by decide +kernel), ?_⟩
  refine List.forall_mem_cons.mpr ⟨zW_in 228 (by decide +kernel) (by decide +kernel), ?_⟩
  refine List.forall_mem_cons.mpr ⟨zW_in 968 (by decide +kernel) (by decide +kernel), ?_⟩
  refine List.forall_mem_cons.mpr ⟨zW_in 972 (by decide +kernel) (by decide +kernel), ?_⟩
  refine List.forall_mem_cons.mpr ⟨zW_in 198 (by decide +kernel) (by decide +kernel), ?_⟩
  refine List.forall_mem_cons.mpr ⟨zW_in 221 (by decide +kernel) (by decide +kernel), ?_⟩
  refine List.forall_mem_cons.mpr ⟨zW_in 224 (by decide +kernel) (by decide +kernel), ?_⟩
  refine List.forall_mem_cons.mpr ⟨zW_in 540 (by decide +kernel) (by decide +kernel), ?_⟩
  refine List.forall_mem_cons.mpr ⟨zW_in 550 (by decide +kernel) (by decide +kernel), ?_⟩
  refine List.forall_mem_cons.mpr ⟨zW_in 571 (by decide +kernel) (by decide +kernel), ?_⟩
  refine List.forall_mem_cons.mpr ⟨zW_in 271 (by decide +kernel) (by decide +kernel), ?_⟩
  refine List.forall_mem_cons.mpr ⟨zW_in 1170 (by decide +kernel) (by decide +kernel), ?_⟩
  refine List.forall_mem_cons.mpr ⟨zW_in 82 (by decide +kernel) (by decide +kernel), ?_⟩
  refine List.forall_mem_cons.mpr ⟨zW_in 85 (by decide +kernel) (by decide +kernel), ?_⟩
  refine List.forall_mem_cons.mpr ⟨zW_in 369 (by decide +kernel) (by decide +kernel), ?_⟩
  refine List.forall_mem_cons.mpr ⟨zW_in 372 (by decide +kernel) (by decide +kernel), ?_⟩
  refine List.forall_mem_cons.mpr ⟨zW_in 375 (by decide +kernel) (by decide +kernel), ?_⟩
  refine List.forall_mem_cons.mpr ⟨zW_in 596 (by decide +kernel) (by decide +kernel), ?_⟩
  refine List.forall_mem_cons.mpr ⟨zW_in 650 (by decide +kernel) (by decide +kernel), ?_⟩
  refine List.forall_mem_cons.mpr ⟨zW_in 955 (by decide +kernel) (by decide +kernel), ?_⟩
  refine List.forall_mem_cons.mpr ⟨zW_in 990 (by decide +kernel) (by decide +kernel), ?_⟩
  refine List.forall_mem_cons.mpr ⟨zW_in 998 (by decide +kernel) (by decide +kernel), ?_⟩
  refine List.forall_mem_cons.mpr ⟨zW_in 1024 (by decide +kernel) (by decide +kernel), ?_⟩
  refine List.forall_mem_cons.mpr ⟨zW_in 1031 (by decide +kernel) (by decide +kernel), ?_⟩
  refine List.forall_mem_cons.mpr ⟨zW_in 1083 (by decide +kernel) (by decide +kernel), ?_⟩
  refine List.forall_mem_cons.mpr ⟨zW_in 1117 (by decide +kernel) (by decide +kernel), ?_⟩
  refine List.forall_mem_cons.mpr ⟨zW_in 1154 (by decide +kernel) (by decide +kernel), ?_⟩
  refine List.forall_mem_cons.mpr ⟨zW_in 1281 (by decide +kernel) (by decide +kernel), ?_⟩
  refine List.forall_mem_cons.mpr ⟨zW_in 1269 (by decide +kernel) (by decide +kernel), ?_⟩
  refine List.forall_mem_cons.mpr ⟨zW_in 1248 (by decide +kernel) (by decide +kernel), ?_⟩
  refine List.forall_mem_cons.mpr ⟨zW_in 1194 (by decide +kernel) (by decide +kernel), ?_⟩
  refine List.forall_mem_cons.mpr ⟨zW_in 1216 (by decide +kernel) (by decide +kernel), ?_⟩
  refine List.forall_mem_cons.mpr ⟨zW_in 1230 (by decide +kernel) (by decide +kernel), ?_⟩
  refine List.forall_mem_cons.mpr ⟨zW_in 1238 (by decide +kernel) (by decide +kernel), ?_⟩
  refine List.forall_mem_cons.mpr ⟨zW_in 1241 (by decide +kernel) (by decide +kernel), ?_⟩
  refine List.forall_mem_cons.mpr ⟨zW_in 1266 (by decide +kernel) (by decide +kernel), ?_⟩
  refine List.forall_mem_cons.mpr ⟨zW_in 1278 (by decide +kernel) (by decide +kernel), ?_⟩
  exact fun x h => absurd h List.not_mem_nil
theorem zCl_desc : zCl.all (fun j => decide ((zY j).cls ≠ "java/lang/invoke/MethodHandle" ∧ (zY j).cls ≠ "java/lang/invoke/VarHandle") && plainFor (zY j)) = true := by decide +kernel
theorem zCl_init : (zCl.map (fun j => (Cond.initialized (zY j).cls : Jvm.Cond))).all (fun w => lw_tbl.contains w && goodWord w) = true := by decide +kernel
def zMTab : List (Nat × Nat × Nat × Nat × Nat) := [(0, 105, 177, 0, 3), (3, 300, 180, 0, 3), (5, 1, 186, 100, 1), (5, 66, 179, 0, 2), (5, 69, 169, 8, 2), (5, 73, 178, 0, 3), (5, 118, 176, 0, 2), (5, 123, 172, 8, 2), (5, 129, 170, 8, 1), (5, 131, 166, 8, 4), (5, 135, 168, 8, 2), (5, 144, 174, 8, 3), (7, 1, 187, 100, 1), (8, 7, 43, 6, 5), (8, 13, 42, 6, 6), (8, 21, 44, 6, 2), (8, 25, 45, 6, 3), (8, 33, 46, 6, 5), (8, 37, 47, 6, 2), (8, 40, 48, 6, 3), (8, 43, 52, 6, 2), (8, 46, 49, 6, 3), (8, 49, 50, 6, 5), (8, 53, 53, 6, 2), (8, 57, 54, 6, 2), (8, 60, 55, 6, 2), (8, 63, 64, 6, 3), (8, 68, 57, 6, 2), (8, 71, 58, 6, 2), (8, 74, 59, 6, 2), (8, 77, 74, 6, 2), (8, 80, 75, 6, 2), (8, 83, 60, 6, 2), (8, 86, 61, 6, 2), (8, 89, 63, 6, 2), (8, 92, 67, 6, 3), (8, 95, 68, 6, 3), (8, 98, 69, 6, 4), (8, 102, 70, 6, 3), (8, 108, 65, 6, 1), (8, 113, 66, 6, 1), (8, 117, 71, 6, 1), (8, 120, 76, 6, 1), (8, 123, 77, 6, 2), (8, 129, 238, 0, 2), (8, 134, 51, 6, 1), (8, 139, 56, 6, 1), (8, 144, 72, 6, 1), (8, 149, 62, 6, 1), (8, 154, 73, 6, 1), (8, 157, 235, 0, 1), (8, 161, 228, 0, 2), (8, 166, 225, 0, 4), (8, 172, 229, 0, 3), (8, 176, 230, 0, 3), (8, 179, 239, 0, 1), (8, 182, 223, 0, 3), (8, 184, 231, 0, 3), (8, 187, 234, 0, 1), (8, 192, 232, 0, 4), (8, 194, 233, 0, 3), (8, 198, 41, 100, 1), (8, 199, 220, 0, 2), (8, 203, 221, 0, 2), (8, 212, 240, 0, 1), (8, 216, 222, 0, 6), (8, 227, 224, 0, 5), (8, 230, 226, 0, 3), (8, 233, 227, 0, 5), (8, 236, 236, 0, 1), (8, 238, 237, 0, 1), (8, 240, 242, 0, 3), (8, 244, 241, 0, 2), (10, 25, 164, 100, 1), (10, 55, 175, 8, 1), (10, 59, 171, 8, 2), (10, 65, 25, 4, 3), (10, 68, 26, 4, 3), (11, 49, 175, 8, 1), (11, 55, 171, 8, 2), (11, 64, 1, 1, 2), (11, 77, 10, 3, 3), (11, 81, 13, 3, 2), (11, 85, 12, 3, 2), (11, 88, 16, 3, 1), (11, 91, 18, 3, 2), (11, 95, 14, 3, 4), (11, 99, 181, 0, 2), (11, 105, 17, 3, 3), (11, 109, 21, 3, 3), (11, 113, 19, 3, 3), (11, 116, 20, 3, 1), (11, 119, 182, 0, 1), (11, 124, 22, 3, 2), (12, 22, 27, 4, 3), (13, 25, 35, 5, 2), (13, 29, 33, 5, 2), (13, 33, 29, 5, 1), (13, 36, 34, 5, 2), (13, 39, 36, 5, 2), (13, 42, 30, 5, 4), (14, 11, 164, 100, 1), (14, 21, 28, 100, 1), (14, 31, 8, 100, 1), (14, 47, 78, 0, 4), (14, 58, 79, 6, 1), (14, 61, 175, 8, 1), (14, 67, 0, 100, 8), (14, 70, 165, 8, 2), (14, 74, 90, 6, 1), (14, 82, 9, 3, 3), (14, 86, 86, 6, 2), (14, 108, 2, 100, 4), (14, 111, 167, 8, 3), (14, 114, 81, 6, 2), (14, 118, 173, 8, 2), (14, 128, 87, 6, 2), (14, 150, 24, 100, 4), (14, 160, 91, 6, 1), (14, 166, 6, 2, 1), (14, 179, 88, 6, 2), (14, 188, 82, 6, 2), (14, 191, 34, 5, 2), (14, 194, 35, 5, 2), (14, 197, 37, 5, 2), (14, 200, 84, 0, 1), (14, 203, 38, 5, 2), (14, 206, 39, 5, 2), (14, 209, 171, 8, 2), (14, 212, 7, 2, 2), (14, 217, 25, 4, 3), (14, 221, 26, 4, 3), (14, 229, 100, 6, 1), (14, 233, 101, 0, 1), (14, 237, 89, 6, 3), (14, 240, 182, 0, 1), (14, 245, 85, 0, 2), (14, 249, 23, 3, 2), (14, 255, 10, 3, 3), (14, 259, 11, 3, 2), (14, 264, 14, 3, 4), (14, 270, 32, 5, 2), (14, 274, 98, 6, 1), (14, 277, 99, 6, 1), (14, 280, 83, 6, 2), (14, 285, 40, 5, 2), (14, 289, 80, 6, 2), (14, 324, 15, 3, 3), (14, 327, 92, 6, 1), (14, 330, 93, 6, 3), (14, 334, 94, 6, 4), (14, 338, 97, 6, 2), (14, 341, 96, 6, 2), (14, 344, 95, 6, 4), (14, 348, 29, 5, 1), (14, 351, 3, 2, 1), (14, 354, 1, 1, 2), (14, 368, 4, 2, 3), (14, 371, 30, 5, 4), (14, 373, 12, 3, 2), (14, 382, 31, 5, 2), (14, 383, 5, 2, 2)]
def zMOK (own : String) (idx j rk n : Nat) : Prop := j ∈ zCl ∧ (Cond.methodLink own idx (zY j) : Jvm.Cond) ∈ zW ∧ (match rk with
  | 0 => (Cond.static (zY j) : Jvm.Cond) ∈ zW ∧ (parseMethodDescriptor (zY j).desc).map (fun d => d.parameters.length) = some n
  | 100 => (Cond.instanceMethod (zY j) : Jvm.Cond) ∈ zW ∧ (zY j).name = "<init>" ∧ zRT j = none ∧ zHH j = none ∧ (parseMethodDescriptor (zY j).desc).map (fun d => d.parameters.length + 1) = some n
  | r + 1 => (Cond.instanceMethod (zY j) : Jvm.Cond) ∈ zW ∧ (Cond.selects (zY j).cls (zY j) (zY j) : Jvm.Cond) ∈ zW ∧ zHH j = none ∧ zcl[r]? = some (zFq r) ∧ (zFq r).1 = (zY j).cls ∧ (parseMethodDescriptor (zY j).desc).map (fun d => d.parameters.length + 1) = some n)
def zMTab0 : List (Nat × Nat × Nat × Nat × Nat) := [(0, 105, 177, 0, 3), (3, 300, 180, 0, 3), (5, 1, 186, 100, 1), (5, 66, 179, 0, 2), (5, 69, 169, 8, 2), (5, 73, 178, 0, 3), (5, 118, 176, 0, 2), (5, 123, 172, 8, 2), (5, 129, 170, 8, 1), (5, 131, 166, 8, 4), (5, 135, 168, 8, 2), (5, 144, 174, 8, 3), (7, 1, 187, 100, 1), (8, 7, 43, 6, 5), (8, 13, 42, 6, 6), (8, 21, 44, 6, 2), (8, 25, 45, 6, 3), (8, 33, 46, 6, 5), (8, 37, 47, 6, 2), (8, 40, 48, 6, 3), (8, 43, 52, 6, 2), (8, 46, 49, 6, 3), (8, 49, 50, 6, 5), (8, 53, 53, 6, 2), (8, 57, 54, 6, 2), (8, 60, 55, 6, 2), (8, 63, 64, 6, 3), (8, 68, 57, 6, 2), (8, 71, 58, 6, 2), (8, 74, 59, 6, 2), (8, 77, 74, 6, 2), (8, 80, 75, 6, 2), (8, 83, 60, 6, 2), (8, 86, 61, 6, 2), (8, 89, 63, 6, 2), (8, 92, 67, 6, 3), (8, 95, 68, 6, 3), (8, 98, 69, 6, 4), (8, 102, 70, 6, 3), (8, 108, 65, 6, 1), (8, 113, 66, 6, 1), (8, 117, 71, 6, 1), (8, 120, 76, 6, 1), (8, 123, 77, 6, 2), (8, 129, 238, 0, 2), (8, 134, 51, 6, 1), (8, 139, 56, 6, 1), (8, 144, 72, 6, 1), (8, 149, 62, 6, 1), (8, 154, 73, 6, 1), (8, 157, 235, 0, 1), (8, 161, 228, 0, 2), (8, 166, 225, 0, 4), (8, 172, 229, 0, 3), (8, 176, 230, 0, 3), (8, 179, 239, 0, 1), (8, 182, 223, 0, 3), (8, 184, 231, 0, 3), (8, 187, 234, 0, 1), (8, 192, 232, 0, 4)]
set_option maxRecDepth 20000 in
theorem zMTab0_ok : ∀ x ∈ zMTab0, zMOK (zOwn.getD x.1 "") x.2.1 x.2.2.1 x.2.2.2.1 x.2.2.2.2 := by
  unfold zMTab0
  refine List.forall_mem_cons.mpr ⟨⟨by decide, zW_in 222 (by decide +kernel) (by decide +kernel), ⟨zW_in 223 (by decide +kernel) (by decide +kernel), by decide +kernel⟩⟩, ?_⟩
  refine List.forall_mem_cons.mpr ⟨⟨by decide, zW_in 569 (by decide +kernel) (by decide +kernel), ⟨zW_in 570 (by decide +kernel) (by decide +kernel), by decide +kernel⟩⟩, ?_⟩
  refine List.forall_mem_cons.mpr ⟨⟨by decide, zW_in 80 (by decide +kernel) (by decide +kernel), ⟨zW_in 81 (by decide +kernel) (by decide +kernel), rfl, rfl, rfl, by decide +kernel⟩⟩, ?_⟩
  refine List.forall_mem_cons.mpr ⟨⟨by decide, zW_in 548 (by decide +kernel) (by decide +kernel), ⟨zW_in 549 (by decide +kernel) (by decide +kernel), by decide +kernel⟩⟩, ?_⟩
  refine List.forall_mem_cons.mpr ⟨⟨by decide, zW_in 534 (by decide +kernel) (by decide +kernel), ⟨zW_in 536 (by decide +kernel) (by decide +kernel), zW_in 19 (by rfl) (by rfl), rfl, rfl, rfl, by decide +kernel⟩⟩, ?_⟩
  refine List.forall_mem_cons.mpr ⟨⟨by decide, zW_in 538 (by decide +kernel) (by decide +kernel), ⟨zW_in 539 (by decide +kernel) (by decide +kernel), by decide +kernel⟩⟩, ?_⟩
  refine List.forall_mem_cons.mpr ⟨⟨by decide, zW_in 219 (by decide +kernel) (by decide +kernel), ⟨zW_in 220 (by decide +kernel) (by decide +kernel), by decide +kernel⟩⟩, ?_⟩
  refine List.forall_mem_cons.mpr ⟨⟨by decide, zW_in 225 (by decide +kernel) (by decide +kernel), ⟨zW_in 226 (by decide +kernel) (by decide +kernel), zW_in 227 (by decide +kernel) (by decide +kernel), rfl, rfl, rfl, by decide +kernel⟩⟩, ?_⟩
  refine List.forall_mem_cons.mpr ⟨⟨by decide, zW_in 530 (by decide +kernel) (by decide +kernel), ⟨zW_in 532 (by decide +kernel) (by decide +kernel), zW_in 18 (by rfl) (by rfl), rfl, rfl, rfl, by decide +kernel⟩⟩, ?_⟩
  refine List.forall_mem_cons.mpr ⟨⟨by decide, zW_in 526 (by decide +kernel) (by decide +kernel), ⟨zW_in 528 (by decide +kernel) (by decide +kernel), zW_in 17 (by rfl) (by rfl), rfl, rfl, rfl, by decide +kernel⟩⟩, ?_⟩
  refine List.forall_mem_cons.mpr ⟨⟨by decide, zW_in 711 (by decide +kernel) (by decide +kernel), ⟨zW_in 713 (by decide +kernel) (by decide +kernel), zW_in 22 (by rfl) (by rfl), rfl, rfl, rfl, by decide +kernel⟩⟩, ?_⟩
  refine List.forall_mem_cons.mpr ⟨⟨by decide, zW_in 969 (by decide +kernel) (by decide +kernel), ⟨zW_in 971 (by decide +kernel) (by decide +kernel), zW_in 25 (by rfl) (by rfl), rfl, rfl, rfl, by decide +kernel⟩⟩, ?_⟩
  refine List.forall_mem_cons.mpr ⟨⟨by decide, zW_in 83 (by decide +kernel) (by decide +kernel), ⟨zW_in 84 (by decide +kernel) (by decide +kernel), rfl, rfl, rfl, by decide +kernel⟩⟩, ?_⟩
  refine List.forall_mem_cons.mpr ⟨⟨by decide, zW_in 378 (by decide +kernel) (by decide +kernel), ⟨zW_in 379 (by decide +kernel) (by decide +kernel), zW_in 380 (by decide +kernel) (by decide +kernel), rfl, rfl, rfl, by decide +kernel⟩⟩, ?_⟩
  refine List.forall_mem_cons.mpr ⟨⟨by decide, zW_in 589 (by decide +kernel) (by decide +kernel), ⟨zW_in 590 (by decide +kernel) (by decide +kernel), zW_in 591 (by decide +kernel) (by decide +kernel), rfl, rfl, rfl, by decide +kernel⟩⟩, ?_⟩
  refine List.forall_mem_cons.mpr ⟨⟨by decide, zW_in 599 (by decide +kernel) (by decide +kernel), ⟨zW_in 600 (by decide +kernel) (by decide +kernel), zW_in 601 (by decide +kernel) (by decide +kernel), rfl, rfl, rfl, by decide +kernel⟩⟩, ?_⟩
  refine List.forall_mem_cons.mpr ⟨⟨by decide, zW_in 643 (by decide +kernel) (by decide +kernel), ⟨zW_in 644 (by decide +kernel) (by decide +kernel), zW_in 645 (by decide +kernel) (by decide +kernel), rfl, rfl, rfl, by decide +kernel⟩⟩, ?_⟩
  refine List.forall_mem_cons.mpr ⟨⟨by decide, zW_in 651 (by decide +kernel) (by decide +kernel), ⟨zW_in 652 (by decide +kernel) (by decide +kernel), zW_in 653 (by decide +kernel) (by decide +kernel), rfl, rfl, rfl, by decide +kernel⟩⟩, ?_⟩
  refine List.forall_mem_cons.mpr ⟨⟨by decide, zW_in 956 (by decide +kernel) (by decide +kernel), ⟨zW_in 957 (by decide +kernel) (by decide +kernel), zW_in 958 (by decide +kernel) (by decide +kernel), rfl, rfl, rfl, by decide +kernel⟩⟩, ?_⟩
  refine List.forall_mem_cons.mpr ⟨⟨by decide, zW_in 973 (by decide +kernel) (by decide +kernel), ⟨zW_in 974 (by decide +kernel) (by decide +kernel), zW_in 975 (by decide +kernel) (by decide +kernel), rfl, rfl, rfl, by decide +kernel⟩⟩, ?_⟩
  refine List.forall_mem_cons.mpr ⟨⟨by decide, zW_in 980 (by decide +kernel) (by decide +kernel), ⟨zW_in 981 (by decide +kernel) (by decide +kernel), zW_in 982 (by decide +kernel) (by decide +kernel), rfl, rfl, rfl, by decide +kernel⟩⟩, ?_⟩
  refine List.forall_mem_cons.mpr ⟨⟨by decide, zW_in 991 (by decide +kernel) (by decide +kernel), ⟨zW_in 992 (by decide +kernel) (by decide +kernel), zW_in 993 (by decide +kernel) (by decide +kernel), rfl, rfl, rfl, by decide +kernel⟩⟩, ?_⟩
  refine List.forall_mem_cons.mpr ⟨⟨by decide, zW_in 999 (by decide +kernel) (by decide +kernel), ⟨zW_in 1000 (by decide +kernel) (by decide +kernel), zW_in 1001 (by decide +kernel) (by decide +kernel), rfl, rfl, rfl, by decide +kernel⟩⟩, ?_⟩
  refine List.forall_mem_cons.mpr ⟨⟨by decide, zW_in 1025 (by decide +kernel) (by decide +kernel), ⟨zW_in 1026 (by decide +kernel) (by decide +kernel), zW_in 1027 (by decide +kernel) (by decide +kernel), rfl, rfl, rfl, by decide +kernel⟩⟩, ?_⟩
  refine List.forall_mem_cons.mpr ⟨⟨by decide, zW_in 1033 (by decide +kernel) (by decide +kernel), ⟨zW_in 1034 (by decide +kernel) (by decide +kernel), zW_in 1035 (by decide +kernel) (by decide +kernel), rfl, rfl, rfl, by decide +kernel⟩⟩, ?_⟩
  refine List.forall_mem_cons.mpr ⟨⟨by decide, zW_in 1057 (by decide +kernel) (by decide +kernel), ⟨zW_in 1058 (by decide +kernel) (by decide +kernel), zW_in 1059 (by decide +kernel) (by decide +kernel), rfl, rfl, rfl, by decide +kernel⟩⟩, ?_⟩
  refine List.forall_mem_cons.mpr ⟨⟨by decide, zW_in 1061 (by decide +kernel) (by decide +kernel), ⟨zW_in 1062 (by decide +kernel) (by decide +kernel), zW_in 1063 (by decide +kernel) (by decide +kernel), rfl, rfl, rfl, by decide +kernel⟩⟩, ?_⟩
  refine List.forall_mem_cons.mpr ⟨⟨by decide, zW_in 1084 (by decide +kernel) (by decide +kernel), ⟨zW_in 1085 (by decide +kernel) (by decide +kernel), zW_in 1086 (by decide +kernel) (by decide +kernel), rfl, rfl, rfl, by decide +kernel⟩⟩, ?_⟩
  refine List.forall_mem_cons.mpr ⟨⟨by decide, zW_in 1093 (by decide +kernel) (by decide +kernel), ⟨zW_in 1094 (by decide +kernel) (by decide +kernel), zW_in 1095 (by decide +kernel) (by decide +kernel), rfl, rfl, rfl, by decide +kernel⟩⟩, ?_⟩
  refine List.forall_mem_cons.mpr ⟨⟨by decide, zW_in 1098 (by decide +kernel) (by decide +kernel), ⟨zW_in 1099 (by decide +kernel) (by decide +kernel), zW_in 1100 (by decide +kernel) (by decide +kernel), rfl, rfl, rfl, by decide +kernel⟩⟩, ?_⟩
  refine List.forall_mem_cons.mpr ⟨⟨by decide, zW_in 1102 (by decide +kernel) (by decide +kernel), ⟨zW_in 1103 (by decide +kernel) (by decide +kernel), zW_in 1104 (by decide +kernel) (by decide +kernel), rfl, rfl, rfl, by decide +kernel⟩⟩, ?_⟩
  refine List.forall_mem_cons.mpr ⟨⟨by decide, zW_in 1111 (by decide +kernel) (by decide +kernel), ⟨zW_in 1112 (by decide +kernel) (by decide +kernel), zW_in 1113 (by decide +kernel) (by decide +kernel), rfl, rfl, rfl, by decide +kernel⟩⟩, ?_⟩
  refine List.forall_mem_cons.mpr ⟨⟨by decide, zW_in 1118 (by decide +kernel) (by decide +kernel), ⟨zW_in 1119 (by decide +kernel) (by decide +kernel), zW_in 1120 (by decide +kernel) (by decide +kernel), rfl, rfl, rfl, by decide +kernel⟩⟩, ?_⟩
  refine List.forall_mem_cons.mpr ⟨⟨by decide, zW_in 1131 (by decide +kernel) (by decide +kernel), ⟨zW_in 1132 (by decide +kernel) (by decide +kernel), zW_in 1133 (by decide +kernel) (by decide +kernel), rfl, rfl, rfl, by decide +kernel⟩⟩, ?_⟩
  refine List.forall_mem_cons.mpr ⟨⟨by decide, zW_in 1139 (by decide +kernel) (by decide +kernel), ⟨zW_in 1140 (by decide +kernel) (by decide +kernel), zW_in 1141 (by decide +kernel) (by decide +kernel), rfl, rfl, rfl, by decide +kernel⟩⟩, ?_⟩
  refine List.forall_mem_cons.mpr ⟨⟨by decide, zW_in 1155 (by decide +kernel) (by decide +kernel), ⟨zW_in 1156 (by decide +kernel) (by decide +kernel), zW_in 1157 (by decide +kernel) (by decide +kernel), rfl, rfl, rfl, by decide +kernel⟩⟩, ?_⟩
  refine List.forall_mem_cons.mpr ⟨⟨by decide, zW_in 1174 (by decide +kernel) (by decide +kernel), ⟨zW_in 1175 (by decide +kernel) (by decide +kernel), zW_in 1176 (by decide +kernel) (by decide +kernel), rfl, rfl, rfl, by decide +kernel⟩⟩, ?_⟩
  refine List.forall_mem_cons.mpr ⟨⟨by decide, zW_in 1187 (by decide +kernel) (by decide +kernel), ⟨zW_in 1188 (by decide +kernel) (by decide +kernel), zW_in 1189 (by decide +kernel) (by decide +kernel), rfl, rfl, rfl, by decide +kernel⟩⟩, ?_⟩
  refine List.forall_mem_cons.mpr ⟨⟨by decide, zW_in 1282 (by decide +kernel) (by decide +kernel), ⟨zW_in 1283 (by decide +kernel) (by decide +kernel), zW_in 1284 (by decide +kernel) (by decide +kernel), rfl, rfl, rfl, by decide +kernel⟩⟩, ?_⟩
  refine List.forall_mem_cons.mpr ⟨⟨by decide, zW_in 1270 (by decide +kernel) (by decide +kernel), ⟨zW_in 1271 (by decide +kernel) (by decide +kernel), zW_in 1272 (by decide +kernel) (by decide +kernel), rfl, rfl, rfl, by decide +kernel⟩⟩, ?_⟩
  refine List.forall_mem_cons.mpr ⟨⟨by decide, zW_in 1249 (by decide +kernel) (by decide +kernel), ⟨zW_in 1250 (by decide +kernel) (by decide +kernel), zW_in 1251 (by decide +kernel) (by decide +kernel), rfl, rfl, rfl, by decide +kernel⟩⟩, ?_⟩
  refine List.forall_mem_cons.mpr ⟨⟨by decide, zW_in 1195 (by decide +kernel) (by decide +kernel), ⟨zW_in 1196 (by decide +kernel) (by decide +kernel), zW_in 1197 (by decide +kernel) (by decide +kernel), rfl, rfl, rfl, by decide +kernel⟩⟩, ?_⟩
  refine List.forall_mem_cons.mpr ⟨⟨by decide, zW_in 1217 (by decide +kernel) (by decide +kernel), ⟨zW_in 1218 (by decide +kernel) (by decide +kernel), zW_in 1219 (by decide +kernel) (by decide +kernel), rfl, rfl, rfl, by decide +kernel⟩⟩, ?_⟩
  refine List.forall_mem_cons.mpr ⟨⟨by decide, zW_in 1231 (by decide +kernel) (by decide +kernel), ⟨zW_in 1232 (by decide +kernel) (by decide +kernel), zW_in 1233 (by decide +kernel) (by decide +kernel), rfl, rfl, rfl, by decide +kernel⟩⟩, ?_⟩
  refine List.forall_mem_cons.mpr ⟨⟨by decide, zW_in 1228 (by decide +kernel) (by decide +kernel), ⟨zW_in 1229 (by decide +kernel) (by decide +kernel), by decide +kernel⟩⟩, ?_⟩
  refine List.forall_mem_cons.mpr ⟨⟨by decide, zW_in 191 (by decide +kernel) (by decide +kernel), ⟨zW_in 192 (by decide +kernel) (by decide +kernel), zW_in 193 (by decide +kernel) (by decide +kernel), rfl, rfl, rfl, by decide +kernel⟩⟩, ?_⟩
  refine List.forall_mem_cons.mpr ⟨⟨by decide, zW_in 199 (by decide +kernel) (by decide +kernel), ⟨zW_in 200 (by decide +kernel) (by decide +kernel), zW_in 201 (by decide +kernel) (by decide +kernel), rfl, rfl, rfl, by decide +kernel⟩⟩, ?_⟩
  refine List.forall_mem_cons.mpr ⟨⟨by decide, zW_in 359 (by decide +kernel) (by decide +kernel), ⟨zW_in 360 (by decide +kernel) (by decide +kernel), zW_in 361 (by decide +kernel) (by decide +kernel), rfl, rfl, rfl, by decide +kernel⟩⟩, ?_⟩
  refine List.forall_mem_cons.mpr ⟨⟨by decide, zW_in 343 (by decide +kernel) (by decide +kernel), ⟨zW_in 344 (by decide +kernel) (by decide +kernel), zW_in 345 (by decide +kernel) (by decide +kernel), rfl, rfl, rfl, by decide +kernel⟩⟩, ?_⟩
  refine List.forall_mem_cons.mpr ⟨⟨by decide, zW_in 363 (by decide +kernel) (by decide +kernel), ⟨zW_in 364 (by decide +kernel) (by decide +kernel), zW_in 365 (by decide +kernel) (by decide +kernel), rfl, rfl, rfl, by decide +kernel⟩⟩, ?_⟩
  refine List.forall_mem_cons.mpr ⟨⟨by decide, zW_in 1246 (by decide +kernel) (by decide +kernel), ⟨zW_in 1247 (by decide +kernel) (by decide +kernel), by decide +kernel⟩⟩, ?_⟩
  refine List.forall_mem_cons.mpr ⟨⟨by decide, zW_in 1022 (by decide +kernel) (by decide +kernel), ⟨zW_in 1023 (by decide +kernel) (by decide +kernel), by decide +kernel⟩⟩, ?_⟩
  refine List.forall_mem_cons.mpr ⟨⟨by decide, zW_in 953 (by decide +kernel) (by decide +kernel), ⟨zW_in 954 (by decide +kernel) (by decide +kernel), by decide +kernel⟩⟩, ?_⟩
  refine List.forall_mem_cons.mpr ⟨⟨by decide, zW_in 1029 (by decide +kernel) (by decide +kernel), ⟨zW_in 1030 (by decide +kernel) (by decide +kernel), by decide +kernel⟩⟩, ?_⟩
  refine List.forall_mem_cons.mpr ⟨⟨by decide, zW_in 1081 (by decide +kernel) (by decide +kernel), ⟨zW_in 1082 (by decide +kernel) (by decide +kernel), by decide +kernel⟩⟩, ?_⟩
  refine List.forall_mem_cons.mpr ⟨⟨by decide, zW_in 1236 (by decide +kernel) (by decide +kernel), ⟨zW_in 1237 (by decide +kernel) (by decide +kernel), by decide +kernel⟩⟩, ?_⟩
  refine List.forall_mem_cons.mpr ⟨⟨by decide, zW_in 594 (by decide +kernel) (by decide +kernel), ⟨zW_in 595 (by decide +kernel) (by decide +kernel), by decide +kernel⟩⟩, ?_⟩
  refine List.forall_mem_cons.mpr ⟨⟨by decide, zW_in 1115 (by decide +kernel) (by decide +kernel), ⟨zW_in 1116 (by decide +kernel) (by decide +kernel), by decide +kernel⟩⟩, ?_⟩
  refine List.forall_mem_cons.mpr ⟨⟨by decide, zW_in 1267 (by decide +kernel) (by decide +kernel), ⟨zW_in 1268 (by decide +kernel) (by decide +kernel), by decide +kernel⟩⟩, ?_⟩
  refine List.forall_mem_cons.mpr ⟨⟨by decide, zW_in 1152 (by decide +kernel) (by decide +kernel), ⟨zW_in 1153 (by decide +kernel) (by decide +kernel), by decide +kernel⟩⟩, ?_⟩
  exact fun x h => absurd h List.not_mem_nil
def zMTab1 : List (Nat × Nat × Nat × Nat × Nat) := [(8, 194, 233, 0, 3), (8, 198, 41, 100, 1), (8, 199, 220, 0, 2), (8, 203, 221, 0, 2), (8, 212, 240, 0, 1), (8, 216, 222, 0, 6), (8, 227, 224, 0, 5), (8, 230, 226, 0, 3), (8, 233, 227, 0, 5), (8, 236, 236, 0, 1), (8, 238, 237, 0, 1), (8, 240, 242, 0, 3), (8, 244, 241, 0, 2), (10, 25, 164, 100, 1), (10, 55, 175, 8, 1), (10, 59, 171, 8, 2), (10, 65, 25, 4, 3), (10, 68, 26, 4, 3), (11, 49, 175, 8, 1), (11, 55, 171, 8, 2), (11, 64, 1, 1, 2), (11, 77, 10, 3, 3), (11, 81, 13, 3, 2), (11, 85, 12, 3, 2), (11, 88, 16, 3, 1), (11, 91, 18, 3, 2), (11, 95, 14, 3, 4), (11, 99, 181, 0, 2), (11, 105, 17, 3, 3), (11, 109, 21, 3, 3), (11, 113, 19, 3, 3), (11, 116, 20, 3, 1), (11, 119, 182, 0, 1), (11, 124, 22, 3, 2), (12, 22, 27, 4, 3), (13, 25, 35, 5, 2), (13, 29, 33, 5, 2), (13, 33, 29, 5, 1), (13, 36, 34, 5, 2), (13, 39, 36, 5, 2), (13, 42, 30, 5, 4), (14, 11, 164, 100, 1), (14, 21, 28, 100, 1), (14, 31, 8, 100, 1), (14, 47, 78, 0, 4), (14, 58, 79, 6, 1), (14, 61, 175, 8, 1), (14, 67, 0, 100, 8), (14, 70, 165, 8, 2), (14, 74, 90, 6, 1), (14, 82, 9, 3, 3), (14, 86, 86, 6, 2), (14, 108, 2, 100, 4), (14, 111, 167, 8, 3), (14, 114, 81, 6, 2), (14, 118, 173, 8, 2), (14, 128, 87, 6, 2), (14, 150, 24, 100, 4), (14, 160, 91, 6, 1), (14, 166, 6, 2, 1)]
set_option maxRecDepth 20000 in
theorem zMTab1_ok : ∀ x ∈ zMTab1, zMOK (zOwn.getD x.1 "") x.2.1 x.2.2.1 x.2.2.2.1 x.2.2.2.2 := by
  unfold zMTab1
  refine List.forall_mem_cons.mpr ⟨⟨by decide, zW_in 1279 (by decide +kernel) (by decide +kernel), ⟨zW_in 1280 (by decide +kernel) (by decide +kernel), by decide +kernel⟩⟩, ?_⟩
  refine List.forall_mem_cons.mpr ⟨⟨by decide, zW_in 69 (by decide +kernel) (by decide +kernel), ⟨zW_in 70 (by decide +kernel) (by decide +kernel), rfl, rfl, rfl, by decide +kernel⟩⟩, ?_⟩
  refine List.forall_mem_cons.mpr ⟨⟨by decide, zW_in 367 (by decide +kernel) (by decide +kernel), ⟨zW_in 368 (by decide +kernel) (by decide +kernel), by decide +kernel⟩⟩, ?_⟩
  refine List.forall_mem_cons.mpr ⟨⟨by decide, zW_in 370 (by decide +kernel) (by decide +kernel), ⟨zW_in 371 (by decide +kernel) (by decide +kernel), by decide +kernel⟩⟩, ?_⟩
  refine List.forall_mem_cons.mpr ⟨⟨by decide, zW_in 1239 (by decide +kernel) (by decide +kernel), ⟨zW_in 1240 (by decide +kernel) (by decide +kernel), by decide +kernel⟩⟩, ?_⟩
  refine List.forall_mem_cons.mpr ⟨⟨by decide, zW_in 373 (by decide +kernel) (by decide +kernel), ⟨zW_in 374 (by decide +kernel) (by decide +kernel), by decide +kernel⟩⟩, ?_⟩
  refine List.forall_mem_cons.mpr ⟨⟨by decide, zW_in 648 (by decide +kernel) (by decide +kernel), ⟨zW_in 649 (by decide +kernel) (by decide +kernel), by decide +kernel⟩⟩, ?_⟩
  refine List.forall_mem_cons.mpr ⟨⟨by decide, zW_in 988 (by decide +kernel) (by decide +kernel), ⟨zW_in 989 (by decide +kernel) (by decide +kernel), by decide +kernel⟩⟩, ?_⟩
  refine List.forall_mem_cons.mpr ⟨⟨by decide, zW_in 996 (by decide +kernel) (by decide +kernel), ⟨zW_in 997 (by decide +kernel) (by decide +kernel), by decide +kernel⟩⟩, ?_⟩
  refine List.forall_mem_cons.mpr ⟨⟨by decide, zW_in 1192 (by decide +kernel) (by decide +kernel), ⟨zW_in 1193 (by decide +kernel) (by decide +kernel), by decide +kernel⟩⟩, ?_⟩
  refine List.forall_mem_cons.mpr ⟨⟨by decide, zW_in 1214 (by decide +kernel) (by decide +kernel), ⟨zW_in 1215 (by decide +kernel) (by decide +kernel), by decide +kernel⟩⟩, ?_⟩
  refine List.forall_mem_cons.mpr ⟨⟨by decide, zW_in 1276 (by decide +kernel) (by decide +kernel), ⟨zW_in 1277 (by decide +kernel) (by decide +kernel), by decide +kernel⟩⟩, ?_⟩
  refine List.forall_mem_cons.mpr ⟨⟨by decide, zW_in 1264 (by decide +kernel) (by decide +kernel), ⟨zW_in 1265 (by decide +kernel) (by decide +kernel), by decide +kernel⟩⟩, ?_⟩
  refine List.forall_mem_cons.mpr ⟨⟨by decide, zW_in 665 (by decide +kernel) (by decide +kernel), ⟨zW_in 78 (by decide +kernel) (by decide +kernel), rfl, rfl, rfl, by decide +kernel⟩⟩, ?_⟩
  refine List.forall_mem_cons.mpr ⟨⟨by decide, zW_in 1147 (by decide +kernel) (by decide +kernel), ⟨zW_in 196 (by decide +kernel) (by decide +kernel), zW_in 197 (by decide +kernel) (by decide +kernel), rfl, rfl, rfl, by decide +kernel⟩⟩, ?_⟩
  refine List.forall_mem_cons.mpr ⟨⟨by decide, zW_in 1148 (by decide +kernel) (by decide +kernel), ⟨zW_in 216 (by decide +kernel) (by decide +kernel), zW_in 217 (by decide +kernel) (by decide +kernel), rfl, rfl, rfl, by decide +kernel⟩⟩, ?_⟩
  refine List.forall_mem_cons.mpr ⟨⟨by decide, zW_in 1150 (by decide +kernel) (by decide +kernel), ⟨zW_in 1067 (by decide +kernel) (by decide +kernel), zW_in 1068 (by decide +kernel) (by decide +kernel), rfl, rfl, rfl, by decide +kernel⟩⟩, ?_⟩
  refine List.forall_mem_cons.mpr ⟨⟨by decide, zW_in 1151 (by decide +kernel) (by decide +kernel), ⟨zW_in 1076 (by decide +kernel) (by decide +kernel), zW_in 1077 (by decide +kernel) (by decide +kernel), rfl, rfl, rfl, by decide +kernel⟩⟩, ?_⟩
  refine List.forall_mem_cons.mpr ⟨⟨by decide, zW_in 585 (by decide +kernel) (by decide +kernel), ⟨zW_in 196 (by decide +kernel) (by decide +kernel), zW_in 197 (by decide +kernel) (by decide +kernel), rfl, rfl, rfl, by decide +kernel⟩⟩, ?_⟩
  refine List.forall_mem_cons.mpr ⟨⟨by decide, zW_in 586 (by decide +kernel) (by decide +kernel), ⟨zW_in 216 (by decide +kernel) (by decide +kernel), zW_in 217 (by decide +kernel) (by decide +kernel), rfl, rfl, rfl, by decide +kernel⟩⟩, ?_⟩
  refine List.forall_mem_cons.mpr ⟨⟨by decide, zW_in 588 (by decide +kernel) (by decide +kernel), ⟨zW_in 239 (by decide +kernel) (by decide +kernel), zW_in 240 (by decide +kernel) (by decide +kernel), rfl, rfl, rfl, by decide +kernel⟩⟩, ?_⟩
  refine List.forall_mem_cons.mpr ⟨⟨by decide, zW_in 300 (by decide +kernel) (by decide +kernel), ⟨zW_in 301 (by decide +kernel) (by decide +kernel), zW_in 302 (by decide +kernel) (by decide +kernel), rfl, rfl, rfl, by decide +kernel⟩⟩, ?_⟩
  refine List.forall_mem_cons.mpr ⟨⟨by decide, zW_in 304 (by decide +kernel) (by decide +kernel), ⟨zW_in 306 (by decide +kernel) (by decide +kernel), zW_in 12 (by rfl) (by rfl), rfl, rfl, rfl, by decide +kernel⟩⟩, ?_⟩
  refine List.forall_mem_cons.mpr ⟨⟨by decide, zW_in 272 (by decide +kernel) (by decide +kernel), ⟨zW_in 273 (by decide +kernel) (by decide +kernel), zW_in 274 (by decide +kernel) (by decide +kernel), rfl, rfl, rfl, by decide +kernel⟩⟩, ?_⟩
  refine List.forall_mem_cons.mpr ⟨⟨by decide, zW_in 265 (by decide +kernel) (by decide +kernel), ⟨zW_in 267 (by decide +kernel) (by decide +kernel), zW_in 6 (by rfl) (by rfl), rfl, rfl, rfl, by decide +kernel⟩⟩, ?_⟩
  refine List.forall_mem_cons.mpr ⟨⟨by decide, zW_in 280 (by decide +kernel) (by decide +kernel), ⟨zW_in 282 (by decide +kernel) (by decide +kernel), zW_in 8 (by rfl) (by rfl), rfl, rfl, rfl, by decide +kernel⟩⟩, ?_⟩
  refine List.forall_mem_cons.mpr ⟨⟨by decide, zW_in 296 (by decide +kernel) (by decide +kernel), ⟨zW_in 297 (by decide +kernel) (by decide +kernel), zW_in 298 (by decide +kernel) (by decide +kernel), rfl, rfl, rfl, by decide +kernel⟩⟩, ?_⟩
  refine List.forall_mem_cons.mpr ⟨⟨by decide, zW_in 269 (by decide +kernel) (by decide +kernel), ⟨zW_in 270 (by decide +kernel) (by decide +kernel), by decide +kernel⟩⟩, ?_⟩
  refine List.forall_mem_cons.mpr ⟨⟨by decide, zW_in 276 (by decide +kernel) (by decide +kernel), ⟨zW_in 278 (by decide +kernel) (by decide +kernel), zW_in 7 (by rfl) (by rfl), rfl, rfl, rfl, by decide +kernel⟩⟩, ?_⟩
  refine List.forall_mem_cons.mpr ⟨⟨by decide, zW_in 284 (by decide +kernel) (by decide +kernel), ⟨zW_in 286 (by decide +kernel) (by decide +kernel), zW_in 9 (by rfl) (by rfl), rfl, rfl, rfl, by decide +kernel⟩⟩, ?_⟩
  refine List.forall_mem_cons.mpr ⟨⟨by decide, zW_in 288 (by decide +kernel) (by decide +kernel), ⟨zW_in 290 (by decide +kernel) (by decide +kernel), zW_in 10 (by rfl) (by rfl), rfl, rfl, rfl, by decide +kernel⟩⟩, ?_⟩
  refine List.forall_mem_cons.mpr ⟨⟨by decide, zW_in 292 (by decide +kernel) (by decide +kernel), ⟨zW_in 294 (by decide +kernel) (by decide +kernel), zW_in 11 (by rfl) (by rfl), rfl, rfl, rfl, by decide +kernel⟩⟩, ?_⟩
  refine List.forall_mem_cons.mpr ⟨⟨by decide, zW_in 1182 (by decide +kernel) (by decide +kernel), ⟨zW_in 1169 (by decide +kernel) (by decide +kernel), by decide +kernel⟩⟩, ?_⟩
  refine List.forall_mem_cons.mpr ⟨⟨by decide, zW_in 1183 (by decide +kernel) (by decide +kernel), ⟨zW_in 1185 (by decide +kernel) (by decide +kernel), zW_in 32 (by rfl) (by rfl), rfl, rfl, rfl, by decide +kernel⟩⟩, ?_⟩
  refine List.forall_mem_cons.mpr ⟨⟨by decide, zW_in 1070 (by decide +kernel) (by decide +kernel), ⟨zW_in 1072 (by decide +kernel) (by decide +kernel), zW_in 28 (by rfl) (by rfl), rfl, rfl, rfl, by decide +kernel⟩⟩, ?_⟩
  refine List.forall_mem_cons.mpr ⟨⟨by decide, zW_in 326 (by decide +kernel) (by decide +kernel), ⟨zW_in 327 (by decide +kernel) (by decide +kernel), zW_in 328 (by decide +kernel) (by decide +kernel), rfl, rfl, rfl, by decide +kernel⟩⟩, ?_⟩
  refine List.forall_mem_cons.mpr ⟨⟨by decide, zW_in 330 (by decide +kernel) (by decide +kernel), ⟨zW_in 331 (by decide +kernel) (by decide +kernel), zW_in 332 (by decide +kernel) (by decide +kernel), rfl, rfl, rfl, by decide +kernel⟩⟩, ?_⟩
  refine List.forall_mem_cons.mpr ⟨⟨by decide, zW_in 1204 (by decide +kernel) (by decide +kernel), ⟨zW_in 212 (by decide +kernel) (by decide +kernel), zW_in 213 (by decide +kernel) (by decide +kernel), rfl, rfl, rfl, by decide +kernel⟩⟩, ?_⟩
  refine List.forall_mem_cons.mpr ⟨⟨by decide, zW_in 1130 (by decide +kernel) (by decide +kernel), ⟨zW_in 348 (by decide +kernel) (by decide +kernel), zW_in 349 (by decide +kernel) (by decide +kernel), rfl, rfl, rfl, by decide +kernel⟩⟩, ?_⟩
  refine List.forall_mem_cons.mpr ⟨⟨by decide, zW_in 355 (by decide +kernel) (by decide +kernel), ⟨zW_in 356 (by decide +kernel) (by decide +kernel), zW_in 357 (by decide +kernel) (by decide +kernel), rfl, rfl, rfl, by decide +kernel⟩⟩, ?_⟩
  refine List.forall_mem_cons.mpr ⟨⟨by decide, zW_in 1205 (by decide +kernel) (by decide +kernel), ⟨zW_in 309 (by decide +kernel) (by decide +kernel), zW_in 310 (by decide +kernel) (by decide +kernel), rfl, rfl, rfl, by decide +kernel⟩⟩, ?_⟩
  refine List.forall_mem_cons.mpr ⟨⟨by decide, zW_in 77 (by decide +kernel) (by decide +kernel), ⟨zW_in 78 (by decide +kernel) (by decide +kernel), rfl, rfl, rfl, by decide +kernel⟩⟩, ?_⟩
  refine List.forall_mem_cons.mpr ⟨⟨by decide, zW_in 103 (by decide +kernel) (by decide +kernel), ⟨zW_in 104 (by decide +kernel) (by decide +kernel), rfl, rfl, rfl, by decide +kernel⟩⟩, ?_⟩
  refine List.forall_mem_cons.mpr ⟨⟨by decide, zW_in 124 (by decide +kernel) (by decide +kernel), ⟨zW_in 125 (by decide +kernel) (by decide +kernel), rfl, rfl, rfl, by decide +kernel⟩⟩, ?_⟩
  refine List.forall_mem_cons.mpr ⟨⟨by decide, zW_in 382 (by decide +kernel) (by decide +kernel), ⟨zW_in 383 (by decide +kernel) (by decide +kernel), by decide +kernel⟩⟩, ?_⟩
  refine List.forall_mem_cons.mpr ⟨⟨by decide, zW_in 456 (by decide +kernel) (by decide +kernel), ⟨zW_in 458 (by decide +kernel) (by decide +kernel), zW_in 15 (by rfl) (by rfl), rfl, rfl, rfl, by decide +kernel⟩⟩, ?_⟩
  refine List.forall_mem_cons.mpr ⟨⟨by decide, zW_in 195 (by decide +kernel) (by decide +kernel), ⟨zW_in 196 (by decide +kernel) (by decide +kernel), zW_in 197 (by decide +kernel) (by decide +kernel), rfl, rfl, rfl, by decide +kernel⟩⟩, ?_⟩
  refine List.forall_mem_cons.mpr ⟨⟨by decide, zW_in 483 (by decide +kernel) (by decide +kernel), ⟨zW_in 484 (by decide +kernel) (by decide +kernel), rfl, rfl, rfl, by decide +kernel⟩⟩, ?_⟩
  refine List.forall_mem_cons.mpr ⟨⟨by decide, zW_in 522 (by decide +kernel) (by decide +kernel), ⟨zW_in 523 (by decide +kernel) (by decide +kernel), zW_in 524 (by decide +kernel) (by decide +kernel), rfl, rfl, rfl, by decide +kernel⟩⟩, ?_⟩
  refine List.forall_mem_cons.mpr ⟨⟨by decide, zW_in 476 (by decide +kernel) (by decide +kernel), ⟨zW_in 478 (by decide +kernel) (by decide +kernel), zW_in 16 (by rfl) (by rfl), rfl, rfl, rfl, by decide +kernel⟩⟩, ?_⟩
  refine List.forall_mem_cons.mpr ⟨⟨by decide, zW_in 581 (by decide +kernel) (by decide +kernel), ⟨zW_in 582 (by decide +kernel) (by decide +kernel), zW_in 583 (by decide +kernel) (by decide +kernel), rfl, rfl, rfl, by decide +kernel⟩⟩, ?_⟩
  refine List.forall_mem_cons.mpr ⟨⟨by decide, zW_in 603 (by decide +kernel) (by decide +kernel), ⟨zW_in 605 (by decide +kernel) (by decide +kernel), zW_in 20 (by rfl) (by rfl), rfl, rfl, rfl, by decide +kernel⟩⟩, ?_⟩
  refine List.forall_mem_cons.mpr ⟨⟨by decide, zW_in 660 (by decide +kernel) (by decide +kernel), ⟨zW_in 661 (by decide +kernel) (by decide +kernel), rfl, rfl, rfl, by decide +kernel⟩⟩, ?_⟩
  refine List.forall_mem_cons.mpr ⟨⟨by decide, zW_in 707 (by decide +kernel) (by decide +kernel), ⟨zW_in 708 (by decide +kernel) (by decide +kernel), zW_in 709 (by decide +kernel) (by decide +kernel), rfl, rfl, rfl, by decide +kernel⟩⟩, ?_⟩
  refine List.forall_mem_cons.mpr ⟨⟨by decide, zW_in 960 (by decide +kernel) (by decide +kernel), ⟨zW_in 962 (by decide +kernel) (by decide +kernel), zW_in 24 (by rfl) (by rfl), rfl, rfl, rfl, by decide +kernel⟩⟩, ?_⟩
  refine List.forall_mem_cons.mpr ⟨⟨by decide, zW_in 965 (by decide +kernel) (by decide +kernel), ⟨zW_in 966 (by decide +kernel) (by decide +kernel), zW_in 967 (by decide +kernel) (by decide +kernel), rfl, rfl, rfl, by decide +kernel⟩⟩, ?_⟩
  refine List.forall_mem_cons.mpr ⟨⟨by decide, zW_in 984 (by decide +kernel) (by decide +kernel), ⟨zW_in 986 (by decide +kernel) (by decide +kernel), zW_in 26 (by rfl) (by rfl), rfl, rfl, rfl, by decide +kernel⟩⟩, ?_⟩
  refine List.forall_mem_cons.mpr ⟨⟨by decide, zW_in 1008 (by decide +kernel) (by decide +kernel), ⟨zW_in 1009 (by decide +kernel) (by decide +kernel), rfl, rfl, rfl, by decide +kernel⟩⟩, ?_⟩
  refine List.forall_mem_cons.mpr ⟨⟨by decide, zW_in 203 (by decide +kernel) (by decide +kernel), ⟨zW_in 205 (by decide +kernel) (by decide +kernel), zW_in 0 (by rfl) (by rfl), rfl, rfl, rfl, by decide +kernel⟩⟩, ?_⟩
  refine List.forall_mem_cons.mpr ⟨⟨by decide, zW_in 253 (by decide +kernel) (by decide +kernel), ⟨zW_in 254 (by decide +kernel) (by decide +kernel), zW_in 255 (by decide +kernel) (by decide +kernel), rfl, rfl, rfl, by decide +kernel⟩⟩, ?_⟩
  exact fun x h => absurd h List.not_mem_nil
def zMTab2 : List (Nat × Nat × Nat × Nat × Nat) := [(14, 179, 88, 6, 2), (14, 188, 82, 6, 2), (14, 191, 34, 5, 2), (14, 194, 35, 5, 2), (14, 197, 37, 5, 2), (14, 200, 84, 0, 1), (14, 203, 38, 5, 2), (14, 206, 39, 5, 2), (14, 209, 171, 8, 2), (14, 212, 7, 2, 2), (14, 217, 25, 4, 3), (14, 221, 26, 4, 3), (14, 229, 100, 6, 1), (14, 233, 101, 0, 1), (14, 237, 89, 6, 3), (14, 240, 182, 0, 1), (14, 245, 85, 0, 2), (14, 249, 23, 3, 2), (14, 255, 10, 3, 3), (14, 259, 11, 3, 2), (14, 264, 14, 3, 4), (14, 270, 32, 5, 2), (14, 274, 98, 6, 1), (14, 277, 99, 6, 1), (14, 280, 83, 6, 2), (14, 285, 40, 5, 2), (14, 289, 80, 6, 2), (14, 324, 15, 3, 3), (14, 327, 92, 6, 1), (14, 330, 93, 6, 3), (14, 334, 94, 6, 4), (14, 338, 97, 6, 2), (14, 341, 96, 6, 2), (14, 344, 95, 6, 4), (14, 348, 29, 5, 1), (14, 351, 3, 2, 1), (14, 354, 1, 1, 2), (14, 368, 4, 2, 3), (14, 371, 30, 5, 4), (14, 373, 12, 3, 2), (14, 382, 31, 5, 2), (14, 383, 5, 2, 2)]
set_option maxRecDepth 20000 in
theorem zMTab2_ok : ∀ x ∈ zMTab2, zMOK (zOwn.getD x.1 "") x.2.1 x.2.2.1 x.2.2.2.1 x.2.2.2.2 := by
  unfold zMTab2
  refine List.forall_mem_cons.mpr ⟨⟨by decide, zW_in 1037 (by decide +kernel) (by decide +kernel), ⟨zW_in 1039 (by decide +kernel) (by decide +kernel), zW_in 27 (by rfl) (by rfl), rfl, rfl, rfl, by decide +kernel⟩⟩, ?_⟩
  refine List.forall_mem_cons.mpr ⟨⟨by decide, zW_in 1088 (by decide +kernel) (by decide +kernel), ⟨zW_in 1090 (by decide +kernel) (by decide +kernel), zW_in 29 (by rfl) (by rfl), rfl, rfl, rfl, by decide +kernel⟩⟩, ?_⟩
  refine List.forall_mem_cons.mpr ⟨⟨by decide, zW_in 347 (by decide +kernel) (by decide +kernel), ⟨zW_in 348 (by decide +kernel) (by decide +kernel), zW_in 349 (by decide +kernel) (by decide +kernel), rfl, rfl, rfl, by decide +kernel⟩⟩, ?_⟩
  refine List.forall_mem_cons.mpr ⟨⟨by decide, zW_in 1097 (by decide +kernel) (by decide +kernel), ⟨zW_in 327 (by decide +kernel) (by decide +kernel), zW_in 328 (by decide +kernel) (by decide +kernel), rfl, rfl, rfl, by decide +kernel⟩⟩, ?_⟩
  refine List.forall_mem_cons.mpr ⟨⟨by decide, zW_in 351 (by decide +kernel) (by decide +kernel), ⟨zW_in 352 (by decide +kernel) (by decide +kernel), zW_in 353 (by decide +kernel) (by decide +kernel), rfl, rfl, rfl, by decide +kernel⟩⟩, ?_⟩
  refine List.forall_mem_cons.mpr ⟨⟨by decide, zW_in 1122 (by decide +kernel) (by decide +kernel), ⟨zW_in 1123 (by decide +kernel) (by decide +kernel), by decide +kernel⟩⟩, ?_⟩
  refine List.forall_mem_cons.mpr ⟨⟨by decide, zW_in 1126 (by decide +kernel) (by decide +kernel), ⟨zW_in 1127 (by decide +kernel) (by decide +kernel), zW_in 1128 (by decide +kernel) (by decide +kernel), rfl, rfl, rfl, by decide +kernel⟩⟩, ?_⟩
  refine List.forall_mem_cons.mpr ⟨⟨by decide, zW_in 1135 (by decide +kernel) (by decide +kernel), ⟨zW_in 1136 (by decide +kernel) (by decide +kernel), zW_in 1137 (by decide +kernel) (by decide +kernel), rfl, rfl, rfl, by decide +kernel⟩⟩, ?_⟩
  refine List.forall_mem_cons.mpr ⟨⟨by decide, zW_in 215 (by decide +kernel) (by decide +kernel), ⟨zW_in 216 (by decide +kernel) (by decide +kernel), zW_in 217 (by decide +kernel) (by decide +kernel), rfl, rfl, rfl, by decide +kernel⟩⟩, ?_⟩
  refine List.forall_mem_cons.mpr ⟨⟨by decide, zW_in 1143 (by decide +kernel) (by decide +kernel), ⟨zW_in 1144 (by decide +kernel) (by decide +kernel), zW_in 1145 (by decide +kernel) (by decide +kernel), rfl, rfl, rfl, by decide +kernel⟩⟩, ?_⟩
  refine List.forall_mem_cons.mpr ⟨⟨by decide, zW_in 1066 (by decide +kernel) (by decide +kernel), ⟨zW_in 1067 (by decide +kernel) (by decide +kernel), zW_in 1068 (by decide +kernel) (by decide +kernel), rfl, rfl, rfl, by decide +kernel⟩⟩, ?_⟩
  refine List.forall_mem_cons.mpr ⟨⟨by decide, zW_in 1075 (by decide +kernel) (by decide +kernel), ⟨zW_in 1076 (by decide +kernel) (by decide +kernel), zW_in 1077 (by decide +kernel) (by decide +kernel), rfl, rfl, rfl, by decide +kernel⟩⟩, ?_⟩
  refine List.forall_mem_cons.mpr ⟨⟨by decide, zW_in 1253 (by decide +kernel) (by decide +kernel), ⟨zW_in 1255 (by decide +kernel) (by decide +kernel), zW_in 35 (by rfl) (by rfl), rfl, rfl, rfl, by decide +kernel⟩⟩, ?_⟩
  refine List.forall_mem_cons.mpr ⟨⟨by decide, zW_in 1258 (by decide +kernel) (by decide +kernel), ⟨zW_in 1259 (by decide +kernel) (by decide +kernel), by decide +kernel⟩⟩, ?_⟩
  refine List.forall_mem_cons.mpr ⟨⟨by decide, zW_in 1159 (by decide +kernel) (by decide +kernel), ⟨zW_in 1161 (by decide +kernel) (by decide +kernel), zW_in 31 (by rfl) (by rfl), rfl, rfl, rfl, by decide +kernel⟩⟩, ?_⟩
  refine List.forall_mem_cons.mpr ⟨⟨by decide, zW_in 1168 (by decide +kernel) (by decide +kernel), ⟨zW_in 1169 (by decide +kernel) (by decide +kernel), by decide +kernel⟩⟩, ?_⟩
  refine List.forall_mem_cons.mpr ⟨⟨by decide, zW_in 1163 (by decide +kernel) (by decide +kernel), ⟨zW_in 1164 (by decide +kernel) (by decide +kernel), by decide +kernel⟩⟩, ?_⟩
  refine List.forall_mem_cons.mpr ⟨⟨by decide, zW_in 1178 (by decide +kernel) (by decide +kernel), ⟨zW_in 1179 (by decide +kernel) (by decide +kernel), zW_in 1180 (by decide +kernel) (by decide +kernel), rfl, rfl, rfl, by decide +kernel⟩⟩, ?_⟩
  refine List.forall_mem_cons.mpr ⟨⟨by decide, zW_in 312 (by decide +kernel) (by decide +kernel), ⟨zW_in 301 (by decide +kernel) (by decide +kernel), zW_in 302 (by decide +kernel) (by decide +kernel), rfl, rfl, rfl, by decide +kernel⟩⟩, ?_⟩
  refine List.forall_mem_cons.mpr ⟨⟨by decide, zW_in 314 (by decide +kernel) (by decide +kernel), ⟨zW_in 315 (by decide +kernel) (by decide +kernel), zW_in 316 (by decide +kernel) (by decide +kernel), rfl, rfl, rfl, by decide +kernel⟩⟩, ?_⟩
  refine List.forall_mem_cons.mpr ⟨⟨by decide, zW_in 1286 (by decide +kernel) (by decide +kernel), ⟨zW_in 297 (by decide +kernel) (by decide +kernel), zW_in 298 (by decide +kernel) (by decide +kernel), rfl, rfl, rfl, by decide +kernel⟩⟩, ?_⟩
  refine List.forall_mem_cons.mpr ⟨⟨by decide, zW_in 1200 (by decide +kernel) (by decide +kernel), ⟨zW_in 1201 (by decide +kernel) (by decide +kernel), zW_in 1202 (by decide +kernel) (by decide +kernel), rfl, rfl, rfl, by decide +kernel⟩⟩, ?_⟩
  refine List.forall_mem_cons.mpr ⟨⟨by decide, zW_in 1206 (by decide +kernel) (by decide +kernel), ⟨zW_in 1208 (by decide +kernel) (by decide +kernel), zW_in 33 (by rfl) (by rfl), rfl, rfl, rfl, by decide +kernel⟩⟩, ?_⟩
  refine List.forall_mem_cons.mpr ⟨⟨by decide, zW_in 1210 (by decide +kernel) (by decide +kernel), ⟨zW_in 1212 (by decide +kernel) (by decide +kernel), zW_in 34 (by rfl) (by rfl), rfl, rfl, rfl, by decide +kernel⟩⟩, ?_⟩
  refine List.forall_mem_cons.mpr ⟨⟨by decide, zW_in 1106 (by decide +kernel) (by decide +kernel), ⟨zW_in 1108 (by decide +kernel) (by decide +kernel), zW_in 30 (by rfl) (by rfl), rfl, rfl, rfl, by decide +kernel⟩⟩, ?_⟩
  refine List.forall_mem_cons.mpr ⟨⟨by decide, zW_in 1222 (by decide +kernel) (by decide +kernel), ⟨zW_in 1223 (by decide +kernel) (by decide +kernel), zW_in 1224 (by decide +kernel) (by decide +kernel), rfl, rfl, rfl, by decide +kernel⟩⟩, ?_⟩
  refine List.forall_mem_cons.mpr ⟨⟨by decide, zW_in 607 (by decide +kernel) (by decide +kernel), ⟨zW_in 609 (by decide +kernel) (by decide +kernel), zW_in 21 (by rfl) (by rfl), rfl, rfl, rfl, by decide +kernel⟩⟩, ?_⟩
  refine List.forall_mem_cons.mpr ⟨⟨by decide, zW_in 261 (by decide +kernel) (by decide +kernel), ⟨zW_in 262 (by decide +kernel) (by decide +kernel), zW_in 263 (by decide +kernel) (by decide +kernel), rfl, rfl, rfl, by decide +kernel⟩⟩, ?_⟩
  refine List.forall_mem_cons.mpr ⟨⟨by decide, zW_in 207 (by decide +kernel) (by decide +kernel), ⟨zW_in 209 (by decide +kernel) (by decide +kernel), zW_in 1 (by rfl) (by rfl), rfl, rfl, rfl, by decide +kernel⟩⟩, ?_⟩
  refine List.forall_mem_cons.mpr ⟨⟨by decide, zW_in 234 (by decide +kernel) (by decide +kernel), ⟨zW_in 236 (by decide +kernel) (by decide +kernel), zW_in 2 (by rfl) (by rfl), rfl, rfl, rfl, by decide +kernel⟩⟩, ?_⟩
  refine List.forall_mem_cons.mpr ⟨⟨by decide, zW_in 242 (by decide +kernel) (by decide +kernel), ⟨zW_in 244 (by decide +kernel) (by decide +kernel), zW_in 3 (by rfl) (by rfl), rfl, rfl, rfl, by decide +kernel⟩⟩, ?_⟩
  refine List.forall_mem_cons.mpr ⟨⟨by decide, zW_in 318 (by decide +kernel) (by decide +kernel), ⟨zW_in 320 (by decide +kernel) (by decide +kernel), zW_in 13 (by rfl) (by rfl), rfl, rfl, rfl, by decide +kernel⟩⟩, ?_⟩
  refine List.forall_mem_cons.mpr ⟨⟨by decide, zW_in 246 (by decide +kernel) (by decide +kernel), ⟨zW_in 248 (by decide +kernel) (by decide +kernel), zW_in 4 (by rfl) (by rfl), rfl, rfl, rfl, by decide +kernel⟩⟩, ?_⟩
  refine List.forall_mem_cons.mpr ⟨⟨by decide, zW_in 257 (by decide +kernel) (by decide +kernel), ⟨zW_in 259 (by decide +kernel) (by decide +kernel), zW_in 5 (by rfl) (by rfl), rfl, rfl, rfl, by decide +kernel⟩⟩, ?_⟩
  refine List.forall_mem_cons.mpr ⟨⟨by decide, zW_in 211 (by decide +kernel) (by decide +kernel), ⟨zW_in 212 (by decide +kernel) (by decide +kernel), zW_in 213 (by decide +kernel) (by decide +kernel), rfl, rfl, rfl, by decide +kernel⟩⟩, ?_⟩
  refine List.forall_mem_cons.mpr ⟨⟨by decide, zW_in 230 (by decide +kernel) (by decide +kernel), ⟨zW_in 231 (by decide +kernel) (by decide +kernel), zW_in 232 (by decide +kernel) (by decide +kernel), rfl, rfl, rfl, by decide +kernel⟩⟩, ?_⟩
  refine List.forall_mem_cons.mpr ⟨⟨by decide, zW_in 238 (by decide +kernel) (by decide +kernel), ⟨zW_in 239 (by decide +kernel) (by decide +kernel), zW_in 240 (by decide +kernel) (by decide +kernel), rfl, rfl, rfl, by decide +kernel⟩⟩, ?_⟩
  refine List.forall_mem_cons.mpr ⟨⟨by decide, zW_in 339 (by decide +kernel) (by decide +kernel), ⟨zW_in 340 (by decide +kernel) (by decide +kernel), zW_in 341 (by decide +kernel) (by decide +kernel), rfl, rfl, rfl, by decide +kernel⟩⟩, ?_⟩
  refine List.forall_mem_cons.mpr ⟨⟨by decide, zW_in 308 (by decide +kernel) (by decide +kernel), ⟨zW_in 309 (by decide +kernel) (by decide +kernel), zW_in 310 (by decide +kernel) (by decide +kernel), rfl, rfl, rfl, by decide +kernel⟩⟩, ?_⟩
  refine List.forall_mem_cons.mpr ⟨⟨by decide, zW_in 313 (by decide +kernel) (by decide +kernel), ⟨zW_in 273 (by decide +kernel) (by decide +kernel), zW_in 274 (by decide +kernel) (by decide +kernel), rfl, rfl, rfl, by decide +kernel⟩⟩, ?_⟩
  refine List.forall_mem_cons.mpr ⟨⟨by decide, zW_in 322 (by decide +kernel) (by decide +kernel), ⟨zW_in 323 (by decide +kernel) (by decide +kernel), zW_in 324 (by decide +kernel) (by decide +kernel), rfl, rfl, rfl, by decide +kernel⟩⟩, ?_⟩
  refine List.forall_mem_cons.mpr ⟨⟨by decide, zW_in 334 (by decide +kernel) (by decide +kernel), ⟨zW_in 335 (by decide +kernel) (by decide +kernel), zW_in 336 (by decide +kernel) (by decide +kernel), rfl, rfl, rfl, by decide +kernel⟩⟩, ?_⟩
  exact fun x h => absurd h List.not_mem_nil
theorem zMTab_eq : zMTab = zMTab0 ++ (zMTab1 ++ (zMTab2)) := by decide +kernel
theorem zMTab_ok : ∀ x ∈ zMTab, zMOK (zOwn.getD x.1 "") x.2.1 x.2.2.1 x.2.2.2.1 x.2.2.2.2 := by
  intro x hx
  rw [zMTab_eq] at hx
  simp only [List.mem_append] at hx
  rcases hx with hx | hx | hx
  · exact zMTab0_ok x hx
  · exact zMTab1_ok x hx
  · exact zMTab2_ok x hx

/-! calls, throws, returns: what the table must say of them -/
def zEx (e : Nat) : String := (["java/lang/IllegalArgumentException", "java/lang/IllegalStateException", "java/lang/IndexOutOfBoundsException", "java/lang/UnsupportedOperationException", "java/util/NoSuchElementException"] : List String).getD e ""
/-- the head of a method's words -/
def zHd (k : Nat) : Jvm.Cond := match zHH k with
  | none => .code (zY k) (zB k) (zML k) (zRT k)
  | some hh => .codeWith (zY k) (zB k) (zML k) (zRT k) hh
def zCl : List Nat := [0, 1, 2, 3, 4, 5, 6, 7, 8, 9, 10, 11, 12, 13, 14, 15, 16, 17, 18, 19, 20, 21, 22, 23, 24, 25, 26, 27, 28, 29, 30, 31, 32, 33, 34, 35, 36, 37, 38, 39, 40, 41, 42, 43, 44, 45, 46, 47, 48, 49, 50, 51, 52, 53, 54, 55, 56, 57, 58, 59, 60, 61, 62, 63, 64, 65, 66, 67, 68, 69, 70, 71, 72, 73, 74, 75, 76, 77, 78, 79, 80, 81, 82, 83, 84, 85, 86, 87, 88, 89, 90, 91, 92, 93, 94, 95, 96, 97, 98, 99, 100, 101, 102, 103, 104, 105, 106, 107, 108, 109, 110, 111, 112, 113, 114, 115, 116, 117, 118, 119, 120, 121, 122, 123, 124, 125, 126, 127, 128, 129, 130, 131, 132, 133, 134, 135, 136, 137, 138, 139, 140, 141, 142, 143, 144, 145, 146, 147, 148, 149, 150, 151, 152, 153, 154, 155, 156, 157, 158, 159, 160, 161, 162, 163, 164, 165, 166, 167, 168, 169, 170, 171, 172, 173, 174, 175, 176, 177, 178, 179, 180, 181, 182, 184, 185, 186, 187, 188, 189, 190, 191, 192, 193, 194, 195, 196, 197, 198, 199, 200, 201, 202, 203, 204, 205, 206, 207, 208, 209, 210, 211, 212, 213, 214, 215, 216, 217, 218]
def zClOK (j : Nat) : Prop := zHd j ∈ zW
set_option maxRecDepth 20000 in
theorem zCl_ok : ∀ x ∈ zCl, zClOK x := by
  unfold zCl
  refine List.forall_mem_cons.mpr ⟨zW_in 498 (by rfl) (by rfl), ?_⟩
  refine List.forall_mem_cons.mpr ⟨zW_in 264 (by rfl) (by rfl), ?_⟩
  refine List.forall_mem_cons.mpr ⟨zW_in 686 (by rfl) (by rfl), ?_⟩
  refine List.forall_mem_cons.mpr ⟨zW_in 256 (by rfl) (by rfl), ?_⟩
  refine List.forall_mem_cons.mpr ⟨zW_in 365 (by rfl) (by rfl), ?_⟩
  refine List.forall_mem_cons.mpr ⟨zW_in 360 (by rfl) (by rfl), ?_⟩
  refine List.forall_mem_cons.mpr ⟨zW_in 279 (by rfl) (by rfl), ?_⟩
  refine List.forall_mem_cons.mpr ⟨zW_in 1158 (by rfl) (by rfl), ?_⟩
  refine List.forall_mem_cons.mpr ⟨zW_in 149 (by rfl) (by rfl), ?_⟩
  refine List.forall_mem_cons.mpr ⟨zW_in 610 (by rfl) (by rfl), ?_⟩
  refine List.forall_mem_cons.mpr ⟨zW_in 326 (by rfl) (by rfl), ?_⟩
  refine List.forall_mem_cons.mpr ⟨zW_in 340 (by rfl) (by rfl), ?_⟩
  refine List.forall_mem_cons.mpr ⟨zW_in 298 (by rfl) (by rfl), ?_⟩
  refine List.forall_mem_cons.mpr ⟨zW_in 330 (by rfl) (by rfl), ?_⟩
  refine List.forall_mem_cons.mpr ⟨zW_in 322 (by rfl) (by rfl), ?_⟩
  refine List.forall_mem_cons.mpr ⟨zW_in 287 (by rfl) (by rfl), ?_⟩
  refine List.forall_mem_cons.mpr ⟨zW_in 291 (by rfl) (by rfl), ?_⟩
  refine List.forall_mem_cons.mpr ⟨zW_in 302 (by rfl) (by rfl), ?_⟩
  refine List.forall_mem_cons.mpr ⟨zW_in 306 (by rfl) (by rfl), ?_⟩
  refine List.forall_mem_cons.mpr ⟨zW_in 314 (by rfl) (by rfl), ?_⟩
  refine List.forall_mem_cons.mpr ⟨zW_in 318 (by rfl) (by rfl), ?_⟩
  refine List.forall_mem_cons.mpr ⟨zW_in 310 (by rfl) (by rfl), ?_⟩
  refine List.forall_mem_cons.mpr ⟨zW_in 1247 (by rfl) (by rfl), ?_⟩
  refine List.forall_mem_cons.mpr ⟨zW_in 1242 (by rfl) (by rfl), ?_⟩
  refine List.forall_mem_cons.mpr ⟨zW_in 1033 (by rfl) (by rfl), ?_⟩
  refine List.forall_mem_cons.mpr ⟨zW_in 1165 (by rfl) (by rfl), ?_⟩
  refine List.forall_mem_cons.mpr ⟨zW_in 1174 (by rfl) (by rfl), ?_⟩
  refine List.forall_mem_cons.mpr ⟨zW_in 1169 (by rfl) (by rfl), ?_⟩
  refine List.forall_mem_cons.mpr ⟨zW_in 128 (by rfl) (by rfl), ?_⟩
  refine List.forall_mem_cons.mpr ⟨zW_in 237 (by rfl) (by rfl), ?_⟩
  refine List.forall_mem_cons.mpr ⟨zW_in 334 (by rfl) (by rfl), ?_⟩
  refine List.forall_mem_cons.mpr ⟨zW_in 348 (by rfl) (by rfl), ?_⟩
  refine List.forall_mem_cons.mpr ⟨zW_in 1275 (by rfl) (by rfl), ?_⟩
  refine List.forall_mem_cons.mpr ⟨zW_in 356 (by rfl) (by rfl), ?_⟩
  refine List.forall_mem_cons.mpr ⟨zW_in 373 (by rfl) (by rfl), ?_⟩
  refine List.forall_mem_cons.mpr ⟨zW_in 352 (by rfl) (by rfl), ?_⟩
  refine List.forall_mem_cons.mpr ⟨zW_in 381 (by rfl) (by rfl), ?_⟩
  refine List.forall_mem_cons.mpr ⟨zW_in 377 (by rfl) (by rfl), ?_⟩
  refine List.forall_mem_cons.mpr ⟨zW_in 1135 (by rfl) (by rfl), ?_⟩
  refine List.forall_mem_cons.mpr ⟨zW_in 1147 (by rfl) (by rfl), ?_⟩
  refine List.forall_mem_cons.mpr ⟨zW_in 1316 (by rfl) (by rfl), ?_⟩
  refine List.forall_mem_cons.mpr ⟨zW_in 94 (by rfl) (by rfl), ?_⟩
  refine List.forall_mem_cons.mpr ⟨zW_in 398 (by rfl) (by rfl), ?_⟩
  refine List.forall_mem_cons.mpr ⟨zW_in 601 (by rfl) (by rfl), ?_⟩
  refine List.forall_mem_cons.mpr ⟨zW_in 623 (by rfl) (by rfl), ?_⟩
  refine List.forall_mem_cons.mpr ⟨zW_in 670 (by rfl) (by rfl), ?_⟩
  refine List.forall_mem_cons.mpr ⟨zW_in 678 (by rfl) (by rfl), ?_⟩
  refine List.forall_mem_cons.mpr ⟨zW_in 983 (by rfl) (by rfl), ?_⟩
  refine List.forall_mem_cons.mpr ⟨zW_in 1003 (by rfl) (by rfl), ?_⟩
  refine List.forall_mem_cons.mpr ⟨zW_in 1013 (by rfl) (by rfl), ?_⟩
  refine List.forall_mem_cons.mpr ⟨zW_in 1025 (by rfl) (by rfl), ?_⟩
  refine List.forall_mem_cons.mpr ⟨zW_in 217 (by rfl) (by rfl), ?_⟩
  refine List.forall_mem_cons.mpr ⟨zW_in 1051 (by rfl) (by rfl), ?_⟩
  refine List.forall_mem_cons.mpr ⟨zW_in 1058 (by rfl) (by rfl), ?_⟩
  refine List.forall_mem_cons.mpr ⟨zW_in 1066 (by rfl) (by rfl), ?_⟩
  refine List.forall_mem_cons.mpr ⟨zW_in 1093 (by rfl) (by rfl), ?_⟩
  refine List.forall_mem_cons.mpr ⟨zW_in 225 (by rfl) (by rfl), ?_⟩
  refine List.forall_mem_cons.mpr ⟨zW_in 1100 (by rfl) (by rfl), ?_⟩
  refine List.forall_mem_cons.mpr ⟨zW_in 1112 (by rfl) (by rfl), ?_⟩
  refine List.forall_mem_cons.mpr ⟨zW_in 1120 (by rfl) (by rfl), ?_⟩
  refine List.forall_mem_cons.mpr ⟨zW_in 1127 (by rfl) (by rfl), ?_⟩
  refine List.forall_mem_cons.mpr ⟨zW_in 1143 (by rfl) (by rfl), ?_⟩
  refine List.forall_mem_cons.mpr ⟨zW_in 369 (by rfl) (by rfl), ?_⟩
  refine List.forall_mem_cons.mpr ⟨zW_in 1154 (by rfl) (by rfl), ?_⟩
  refine List.forall_mem_cons.mpr ⟨zW_in 1182 (by rfl) (by rfl), ?_⟩
  refine List.forall_mem_cons.mpr ⟨zW_in 1193 (by rfl) (by rfl), ?_⟩
  refine List.forall_mem_cons.mpr ⟨zW_in 1205 (by rfl) (by rfl), ?_⟩
  refine List.forall_mem_cons.mpr ⟨zW_in 1216 (by rfl) (by rfl), ?_⟩
  refine List.forall_mem_cons.mpr ⟨zW_in 1238 (by rfl) (by rfl), ?_⟩
  refine List.forall_mem_cons.mpr ⟨zW_in 1254 (by rfl) (by rfl), ?_⟩
  refine List.forall_mem_cons.mpr ⟨zW_in 1262 (by rfl) (by rfl), ?_⟩
  refine List.forall_mem_cons.mpr ⟨zW_in 1270 (by rfl) (by rfl), ?_⟩
  refine List.forall_mem_cons.mpr ⟨zW_in 385 (by rfl) (by rfl), ?_⟩
  refine List.forall_mem_cons.mpr ⟨zW_in 389 (by rfl) (by rfl), ?_⟩
  refine List.forall_mem_cons.mpr ⟨zW_in 1292 (by rfl) (by rfl), ?_⟩
  refine List.forall_mem_cons.mpr ⟨zW_in 1304 (by rfl) (by rfl), ?_⟩
  refine List.forall_mem_cons.mpr ⟨zW_in 1311 (by rfl) (by rfl), ?_⟩
  refine List.forall_mem_cons.mpr ⟨zW_in 1325 (by rfl) (by rfl), ?_⟩
  refine List.forall_mem_cons.mpr ⟨zW_in 401 (by rfl) (by rfl), ?_⟩
  refine List.forall_mem_cons.mpr ⟨zW_in 477 (by rfl) (by rfl), ?_⟩
  refine List.forall_mem_cons.mpr ⟨zW_in 631 (by rfl) (by rfl), ?_⟩
  refine List.forall_mem_cons.mpr ⟨zW_in 987 (by rfl) (by rfl), ?_⟩
  refine List.forall_mem_cons.mpr ⟨zW_in 1104 (by rfl) (by rfl), ?_⟩
  refine List.forall_mem_cons.mpr ⟨zW_in 1296 (by rfl) (by rfl), ?_⟩
  refine List.forall_mem_cons.mpr ⟨zW_in 1130 (by rfl) (by rfl), ?_⟩
  refine List.forall_mem_cons.mpr ⟨zW_in 1223 (by rfl) (by rfl), ?_⟩
  refine List.forall_mem_cons.mpr ⟨zW_in 627 (by rfl) (by rfl), ?_⟩
  refine List.forall_mem_cons.mpr ⟨zW_in 1017 (by rfl) (by rfl), ?_⟩
  refine List.forall_mem_cons.mpr ⟨zW_in 1070 (by rfl) (by rfl), ?_⟩
  refine List.forall_mem_cons.mpr ⟨zW_in 1220 (by rfl) (by rfl), ?_⟩
  refine List.forall_mem_cons.mpr ⟨zW_in 605 (by rfl) (by rfl), ?_⟩
  refine List.forall_mem_cons.mpr ⟨zW_in 229 (by rfl) (by rfl), ?_⟩
  refine List.forall_mem_cons.mpr ⟨zW_in 233 (by rfl) (by rfl), ?_⟩
  refine List.forall_mem_cons.mpr ⟨zW_in 260 (by rfl) (by rfl), ?_⟩
  refine List.forall_mem_cons.mpr ⟨zW_in 268 (by rfl) (by rfl), ?_⟩
  refine List.forall_mem_cons.mpr ⟨zW_in 283 (by rfl) (by rfl), ?_⟩
  refine List.forall_mem_cons.mpr ⟨zW_in 272 (by rfl) (by rfl), ?_⟩
  refine List.forall_mem_cons.mpr ⟨zW_in 344 (by rfl) (by rfl), ?_⟩
  refine List.forall_mem_cons.mpr ⟨zW_in 1281 (by rfl) (by rfl), ?_⟩
  refine List.forall_mem_cons.mpr ⟨zW_in 1285 (by rfl) (by rfl), ?_⟩
  refine List.forall_mem_cons.mpr ⟨zW_in 1197 (by rfl) (by rfl), ?_⟩
  refine List.forall_mem_cons.mpr ⟨zW_in 1208 (by rfl) (by rfl), ?_⟩
  refine List.forall_mem_cons.mpr ⟨zW_in 1330 (by rfl) (by rfl), ?_⟩
  refine List.forall_mem_cons.mpr ⟨zW_in 1440 (by rfl) (by rfl), ?_⟩
  refine List.forall_mem_cons.mpr ⟨zW_in 1558 (by rfl) (by rfl), ?_⟩
  refine List.forall_mem_cons.mpr ⟨zW_in 1450 (by rfl) (by rfl), ?_⟩
  refine List.forall_mem_cons.mpr ⟨zW_in 1447 (by rfl) (by rfl), ?_⟩
  refine List.forall_mem_cons.mpr ⟨zW_in 1454 (by rfl) (by rfl), ?_⟩
  refine List.forall_mem_cons.mpr ⟨zW_in 1444 (by rfl) (by rfl), ?_⟩
  refine List.forall_mem_cons.mpr ⟨zW_in 1458 (by rfl) (by rfl), ?_⟩
  refine List.forall_mem_cons.mpr ⟨zW_in 1466 (by rfl) (by rfl), ?_⟩
  refine List.forall_mem_cons.mpr ⟨zW_in 1462 (by rfl) (by rfl), ?_⟩
  refine List.forall_mem_cons.mpr ⟨zW_in 1470 (by rfl) (by rfl), ?_⟩
  refine List.forall_mem_cons.mpr ⟨zW_in 1478 (by rfl) (by rfl), ?_⟩
  refine List.forall_mem_cons.mpr ⟨zW_in 1486 (by rfl) (by rfl), ?_⟩
  refine List.forall_mem_cons.mpr ⟨zW_in 1474 (by rfl) (by rfl), ?_⟩
  refine List.forall_mem_cons.mpr ⟨zW_in 1482 (by rfl) (by rfl), ?_⟩
  refine List.forall_mem_cons.mpr ⟨zW_in 1490 (by rfl) (by rfl), ?_⟩
  refine List.forall_mem_cons.mpr ⟨zW_in 1495 (by rfl) (by rfl), ?_⟩
  refine List.forall_mem_cons.mpr ⟨zW_in 1499 (by rfl) (by rfl), ?_⟩
  refine List.forall_mem_cons.mpr ⟨zW_in 1503 (by rfl) (by rfl), ?_⟩
  refine List.forall_mem_cons.mpr ⟨zW_in 1507 (by rfl) (by rfl), ?_⟩
  refine List.forall_mem_cons.mpr ⟨zW_in 1523 (by rfl) (by rfl), ?_⟩
  refine List.forall_mem_cons.mpr ⟨zW_in 1531 (by rfl) (by rfl), ?_⟩
  refine List.forall_mem_cons.mpr ⟨zW_in 1545 (by rfl) (by rfl), ?_⟩
  refine List.forall_mem_cons.mpr ⟨zW_in 1519 (by rfl) (by rfl), ?_⟩
  refine List.forall_mem_cons.mpr ⟨zW_in 1527 (by rfl) (by rfl), ?_⟩
  refine List.forall_mem_cons.mpr ⟨zW_in 1515 (by rfl) (by rfl), ?_⟩
  refine List.forall_mem_cons.mpr ⟨zW_in 1511 (by rfl) (by rfl), ?_⟩
  refine List.forall_mem_cons.mpr ⟨zW_in 1549 (by rfl) (by rfl), ?_⟩
  refine List.forall_mem_cons.mpr ⟨zW_in 1554 (by rfl) (by rfl), ?_⟩
  refine List.forall_mem_cons.mpr ⟨zW_in 1562 (by rfl) (by rfl), ?_⟩
  refine List.forall_mem_cons.mpr ⟨zW_in 1590 (by rfl) (by rfl), ?_⟩
  refine List.forall_mem_cons.mpr ⟨zW_in 1594 (by rfl) (by rfl), ?_⟩
  refine List.forall_mem_cons.mpr ⟨zW_in 1586 (by rfl) (by rfl), ?_⟩
  refine List.forall_mem_cons.mpr ⟨zW_in 1582 (by rfl) (by rfl), ?_⟩
  refine List.forall_mem_cons.mpr ⟨zW_in 1574 (by rfl) (by rfl), ?_⟩
  refine List.forall_mem_cons.mpr ⟨zW_in 1578 (by rfl) (by rfl), ?_⟩
  refine List.forall_mem_cons.mpr ⟨zW_in 1570 (by rfl) (by rfl), ?_⟩
  refine List.forall_mem_cons.mpr ⟨zW_in 1566 (by rfl) (by rfl), ?_⟩
  refine List.forall_mem_cons.mpr ⟨zW_in 1602 (by rfl) (by rfl), ?_⟩
  refine List.forall_mem_cons.mpr ⟨zW_in 1598 (by rfl) (by rfl), ?_⟩
  refine List.forall_mem_cons.mpr ⟨zW_in 1606 (by rfl) (by rfl), ?_⟩
  refine List.forall_mem_cons.mpr ⟨zW_in 1610 (by rfl) (by rfl), ?_⟩
  refine List.forall_mem_cons.mpr ⟨zW_in 1618 (by rfl) (by rfl), ?_⟩
  refine List.forall_mem_cons.mpr ⟨zW_in 1614 (by rfl) (by rfl), ?_⟩
  refine List.forall_mem_cons.mpr ⟨zW_in 1622 (by rfl) (by rfl), ?_⟩
  refine List.forall_mem_cons.mpr ⟨zW_in 1626 (by rfl) (by rfl), ?_⟩
  refine List.forall_mem_cons.mpr ⟨zW_in 1634 (by rfl) (by rfl), ?_⟩
  refine List.forall_mem_cons.mpr ⟨zW_in 1630 (by rfl) (by rfl), ?_⟩
  refine List.forall_mem_cons.mpr ⟨zW_in 1638 (by rfl) (by rfl), ?_⟩
  refine List.forall_mem_cons.mpr ⟨zW_in 1643 (by rfl) (by rfl), ?_⟩
  refine List.forall_mem_cons.mpr ⟨zW_in 1651 (by rfl) (by rfl), ?_⟩
  refine List.forall_mem_cons.mpr ⟨zW_in 1647 (by rfl) (by rfl), ?_⟩
  refine List.forall_mem_cons.mpr ⟨zW_in 1657 (by rfl) (by rfl), ?_⟩
  refine List.forall_mem_cons.mpr ⟨zW_in 1661 (by rfl) (by rfl), ?_⟩
  refine List.forall_mem_cons.mpr ⟨zW_in 1665 (by rfl) (by rfl), ?_⟩
  refine List.forall_mem_cons.mpr ⟨zW_in 1678 (by rfl) (by rfl), ?_⟩
  refine List.forall_mem_cons.mpr ⟨zW_in 1682 (by rfl) (by rfl), ?_⟩
  refine List.forall_mem_cons.mpr ⟨zW_in 1686 (by rfl) (by rfl), ?_⟩
  refine List.forall_mem_cons.mpr ⟨zW_in 1690 (by rfl) (by rfl), ?_⟩
  refine List.forall_mem_cons.mpr ⟨zW_in 1694 (by rfl) (by rfl), ?_⟩
  refine List.forall_mem_cons.mpr ⟨zW_in 1698 (by rfl) (by rfl), ?_⟩
  refine List.forall_mem_cons.mpr ⟨zW_in 1702 (by rfl) (by rfl), ?_⟩
  refine List.forall_mem_cons.mpr ⟨zW_in 102 (by rfl) (by rfl), ?_⟩
  refine List.forall_mem_cons.mpr ⟨zW_in 538 (by rfl) (by rfl), ?_⟩
  refine List.forall_mem_cons.mpr ⟨zW_in 542 (by rfl) (by rfl), ?_⟩
  refine List.forall_mem_cons.mpr ⟨zW_in 734 (by rfl) (by rfl), ?_⟩
  refine List.forall_mem_cons.mpr ⟨zW_in 738 (by rfl) (by rfl), ?_⟩
  refine List.forall_mem_cons.mpr ⟨zW_in 550 (by rfl) (by rfl), ?_⟩
  refine List.forall_mem_cons.mpr ⟨zW_in 546 (by rfl) (by rfl), ?_⟩
  refine List.forall_mem_cons.mpr ⟨zW_in 241 (by rfl) (by rfl), ?_⟩
  refine List.forall_mem_cons.mpr ⟨zW_in 251 (by rfl) (by rfl), ?_⟩
  refine List.forall_mem_cons.mpr ⟨zW_in 992 (by rfl) (by rfl), ?_⟩
  refine List.forall_mem_cons.mpr ⟨zW_in 996 (by rfl) (by rfl), ?_⟩
  refine List.forall_mem_cons.mpr ⟨zW_in 221 (by rfl) (by rfl), ?_⟩
  refine List.forall_mem_cons.mpr ⟨zW_in 244 (by rfl) (by rfl), ?_⟩
  refine List.forall_mem_cons.mpr ⟨zW_in 247 (by rfl) (by rfl), ?_⟩
  refine List.forall_mem_cons.mpr ⟨zW_in 553 (by rfl) (by rfl), ?_⟩
  refine List.forall_mem_cons.mpr ⟨zW_in 563 (by rfl) (by rfl), ?_⟩
  refine List.forall_mem_cons.mpr ⟨zW_in 585 (by rfl) (by rfl), ?_⟩
  refine List.forall_mem_cons.mpr ⟨zW_in 294 (by rfl) (by rfl), ?_⟩
  refine List.forall_mem_cons.mpr ⟨zW_in 1228 (by rfl) (by rfl), ?_⟩
  refine List.forall_mem_cons.mpr ⟨zW_in 1669 (by rfl) (by rfl), ?_⟩
  refine List.forall_mem_cons.mpr ⟨zW_in 1672 (by rfl) (by rfl), ?_⟩
  refine List.forall_mem_cons.mpr ⟨zW_in 105 (by rfl) (by rfl), ?_⟩
  refine List.forall_mem_cons.mpr ⟨zW_in 108 (by rfl) (by rfl), ?_⟩
  refine List.forall_mem_cons.mpr ⟨zW_in 392 (by rfl) (by rfl), ?_⟩
  refine List.forall_mem_cons.mpr ⟨zW_in 597 (by rfl) (by rfl), ?_⟩
  refine List.forall_mem_cons.mpr ⟨zW_in 617 (by rfl) (by rfl), ?_⟩
  refine List.forall_mem_cons.mpr ⟨zW_in 666 (by rfl) (by rfl), ?_⟩
  refine List.forall_mem_cons.mpr ⟨zW_in 674 (by rfl) (by rfl), ?_⟩
  refine List.forall_mem_cons.mpr ⟨zW_in 979 (by rfl) (by rfl), ?_⟩
  refine List.forall_mem_cons.mpr ⟨zW_in 999 (by rfl) (by rfl), ?_⟩
  refine List.forall_mem_cons.mpr ⟨zW_in 1009 (by rfl) (by rfl), ?_⟩
  refine List.forall_mem_cons.mpr ⟨zW_in 1021 (by rfl) (by rfl), ?_⟩
  refine List.forall_mem_cons.mpr ⟨zW_in 1047 (by rfl) (by rfl), ?_⟩
  refine List.forall_mem_cons.mpr ⟨zW_in 1054 (by rfl) (by rfl), ?_⟩
  refine List.forall_mem_cons.mpr ⟨zW_in 1061 (by rfl) (by rfl), ?_⟩
  refine List.forall_mem_cons.mpr ⟨zW_in 1089 (by rfl) (by rfl), ?_⟩
  refine List.forall_mem_cons.mpr ⟨zW_in 1096 (by rfl) (by rfl), ?_⟩
  refine List.forall_mem_cons.mpr ⟨zW_in 1108 (by rfl) (by rfl), ?_⟩
  refine List.forall_mem_cons.mpr ⟨zW_in 1116 (by rfl) (by rfl), ?_⟩
  refine List.forall_mem_cons.mpr ⟨zW_in 1123 (by rfl) (by rfl), ?_⟩
  refine List.forall_mem_cons.mpr ⟨zW_in 1139 (by rfl) (by rfl), ?_⟩
  refine List.forall_mem_cons.mpr ⟨zW_in 1150 (by rfl) (by rfl), ?_⟩
  refine List.forall_mem_cons.mpr ⟨zW_in 1178 (by rfl) (by rfl), ?_⟩
  refine List.forall_mem_cons.mpr ⟨zW_in 1189 (by rfl) (by rfl), ?_⟩
  refine List.forall_mem_cons.mpr ⟨zW_in 1201 (by rfl) (by rfl), ?_⟩
  refine List.forall_mem_cons.mpr ⟨zW_in 1212 (by rfl) (by rfl), ?_⟩
  refine List.forall_mem_cons.mpr ⟨zW_in 1234 (by rfl) (by rfl), ?_⟩
  refine List.forall_mem_cons.mpr ⟨zW_in 1250 (by rfl) (by rfl), ?_⟩
  refine List.forall_mem_cons.mpr ⟨zW_in 1258 (by rfl) (by rfl), ?_⟩
  refine List.forall_mem_cons.mpr ⟨zW_in 1266 (by rfl) (by rfl), ?_⟩
  refine List.forall_mem_cons.mpr ⟨zW_in 1288 (by rfl) (by rfl), ?_⟩
  refine List.forall_mem_cons.mpr ⟨zW_in 1300 (by rfl) (by rfl), ?_⟩
  refine List.forall_mem_cons.mpr ⟨zW_in 1307 (by rfl) (by rfl), ?_⟩
  refine List.forall_mem_cons.mpr ⟨zW_in 1321 (by rfl) (by rfl), ?_⟩
  exact fun x h => absurd h List.not_mem_nil
theorem zCl_desc : zCl.all (fun j => decide ((zY j).cls ≠ "java/lang/invoke/MethodHandle" ∧ (zY j).cls ≠ "java/lang/invoke/VarHandle") && plainFor (zY j)) = true := by decide +kernel
theorem zCl_init : (zCl.map (fun j => (Cond.initialized (zY j).cls : Jvm.Cond))).all (fun w => lw_tbl.contains w && goodWord w) = true := by decide +kernel
def zMTab : List (Nat × Nat × Nat × Nat × Nat) := [(0, 105, 177, 0, 3), (3, 300, 180, 0, 3), (6, 1, 186, 100, 1), (6, 66, 179, 0, 2), (6, 69, 169, 8, 2), (6, 73, 178, 0, 3), (6, 118, 176, 0, 2), (6, 123, 172, 8, 2), (6, 129, 170, 8, 1), (6, 131, 166, 8, 4), (6, 135, 168, 8, 2), (6, 144, 174, 8, 3), (8, 1, 187, 100, 1), (9, 59, 185, 0, 1), (10, 7, 42, 6, 6), (10, 17, 43, 6, 5), (10, 21, 44, 6, 2), (10, 29, 45, 6, 3), (10, 33, 46, 6, 5), (10, 37, 47, 6, 2), (10, 40, 48, 6, 3), (10, 43, 49, 6, 3), (10, 46, 50, 6, 5), (10, 50, 52, 6, 2), (10, 53, 53, 6, 2), (10, 57, 54, 6, 2), (10, 62, 55, 6, 2), (10, 65, 57, 6, 2), (10, 68, 58, 6, 2), (10, 71, 59, 6, 2), (10, 74, 60, 6, 2), (10, 77, 61, 6, 2), (10, 80, 63, 6, 2), (10, 83, 64, 6, 3), (10, 86, 65, 6, 1), (10, 90, 66, 6, 1), (10, 94, 67, 6, 3), (10, 97, 68, 6, 3), (10, 100, 69, 6, 4), (10, 104, 70, 6, 3), (10, 108, 71, 6, 1), (10, 111, 74, 6, 2), (10, 114, 75, 6, 2), (10, 117, 76, 6, 1), (10, 120, 77, 6, 2), (10, 124, 41, 100, 1), (10, 127, 102, 100, 1), (10, 128, 188, 0, 7), (10, 133, 108, 7, 6), (10, 134, 103, 7, 1), (10, 137, 189, 0, 6), (10, 140, 109, 7, 5), (10, 141, 190, 0, 3), (10, 144, 111, 7, 2), (10, 145, 191, 0, 4), (10, 148, 112, 7, 3), (10, 149, 192, 0, 6), (10, 152, 115, 7, 5), (10, 153, 193, 0, 3), (10, 155, 116, 7, 2), (10, 156, 194, 0, 4), (10, 158, 117, 7, 3), (10, 159, 195, 0, 4), (10, 161, 118, 7, 3), (10, 162, 196, 0, 6), (10, 165, 119, 7, 5), (10, 166, 51, 6, 1), (10, 169, 120, 7, 1), (10, 170, 197, 0, 3), (10, 172, 121, 7, 2), (10, 173, 198, 0, 3), (10, 175, 139, 7, 2), (10, 176, 199, 0, 3), (10, 178, 141, 7, 2), (10, 179, 200, 0, 3), (10, 181, 142, 7, 2), (10, 182, 56, 6, 1), (10, 185, 143, 7, 1), (10, 186, 201, 0, 3), (10, 188, 145, 7, 2), (10, 189, 202, 0, 3), (10, 191, 146, 7, 2), (10, 192, 203, 0, 3), (10, 194, 147, 7, 2), (10, 195, 204, 0, 3), (10, 197, 149, 7, 2), (10, 198, 205, 0, 3), (10, 200, 150, 7, 2), (10, 201, 62, 6, 1), (10, 204, 151, 7, 1), (10, 205, 206, 0, 3), (10, 207, 153, 7, 2), (10, 208, 207, 0, 4), (10, 210, 154, 7, 3), (10, 211, 208, 0, 2), (10, 214, 155, 7, 1), (10, 215, 209, 0, 2), (10, 218, 156, 7, 1), (10, 219, 210, 0, 4), (10, 221, 128, 7, 3), (10, 222, 211, 0, 4), (10, 224, 129, 7, 3), (10, 225, 212, 0, 5), (10, 228, 130, 7, 4), (10, 229, 213, 0, 4), (10, 232, 131, 7, 3), (10, 233, 214, 0, 2), (10, 235, 157, 7, 1), (10, 236, 72, 6, 1), (10, 239, 158, 7, 1), (10, 240, 73, 6, 1), (10, 243, 159, 7, 1), (10, 244, 215, 0, 3), (10, 246, 160, 7, 2), (10, 247, 216, 0, 3), (10, 249, 161, 7, 2), (10, 250, 217, 0, 2), (10, 252, 162, 7, 1), (10, 253, 218, 0, 3), (10, 255, 163, 7, 2), (12, 25, 164, 100, 1), (12, 55, 175, 8, 1), (12, 59, 171, 8, 2), (12, 65, 25, 4, 3), (12, 68, 26, 4, 3), (13, 49, 175, 8, 1), (13, 55, 171, 8, 2), (13, 64, 1, 1, 2), (13, 77, 10, 3, 3), (13, 81, 13, 3, 2), (13, 85, 12, 3, 2), (13, 88, 16, 3, 1), (13, 91, 18, 3, 2), (13, 95, 14, 3, 4), (13, 99, 181, 0, 2), (13, 105, 17, 3, 3), (13, 109, 21, 3, 3), (13, 113, 19, 3, 3), (13, 116, 20, 3, 1), (13, 119, 182, 0, 1), (13, 124, 22, 3, 2), (14, 22, 27, 4, 3), (15, 25, 35, 5, 2), (15, 29, 33, 5, 2), (15, 33, 29, 5, 1), (15, 36, 34, 5, 2), (15, 39, 36, 5, 2), (15, 42, 30, 5, 4), (16, 11, 164, 100, 1), (16, 21, 28, 100, 1), (16, 31, 8, 100, 1), (16, 47, 78, 0, 4), (16, 58, 79, 6, 1), (16, 61, 175, 8, 1), (16, 67, 0, 100, 8), (16, 70, 165, 8, 2), (16, 74, 90, 6, 1), (16, 82, 9, 3, 3), (16, 86, 86, 6, 2), (16, 108, 2, 100, 4), (16, 111, 167, 8, 3), (16, 114, 81, 6, 2), (16, 118, 173, 8, 2), (16, 128, 87, 6, 2), (16, 150, 24, 100, 4), (16, 160, 91, 6, 1), (16, 166, 6, 2, 1), (16, 179, 88, 6, 2), (16, 188, 82, 6, 2), (16, 191, 34, 5, 2), (16, 194, 35, 5, 2), (16, 197, 37, 5, 2), (16, 200, 84, 0, 1), (16, 203, 38, 5, 2), (16, 206, 39, 5, 2), (16, 209, 171, 8, 2), (16, 212, 7, 2, 2), (16, 217, 25, 4, 3), (16, 221, 26, 4, 3), (16, 229, 100, 6, 1), (16, 233, 101, 0, 1), (16, 237, 89, 6, 3), (16, 240, 182, 0, 1), (16, 245, 85, 0, 2), (16, 249, 23, 3, 2), (16, 255, 10, 3, 3), (16, 259, 11, 3, 2), (16, 264, 14, 3, 4), (16, 270, 32, 5, 2), (16, 274, 98, 6, 1), (16, 277, 99, 6, 1), (16, 280, 83, 6, 2), (16, 285, 40, 5, 2), (16, 289, 80, 6, 2), (16, 324, 15, 3, 3), (16, 327, 92, 6, 1), (16, 330, 93, 6, 3), (16, 334, 94, 6, 4), (16, 338, 97, 6, 2), (16, 341, 96, 6, 2), (16, 344, 95, 6, 4), (16, 348, 29, 5, 1), (16, 351, 3, 2, 1), (16, 354, 1, 1, 2), (16, 368, 4, 2, 3), (16, 371, 30, 5, 4), (16, 373, 12, 3, 2), (16, 382, 31, 5, 2), (16, 383, 5, 2, 2), (17, 88, 105, 0, 3), (17, 98, 106, 0, 4), (17, 102, 107, 7, 7), (17, 106, 110, 7, 2), (17, 112, 113, 7, 3), (17, 116, 114, 7, 2), (17, 134, 122, 7, 2), (17, 137, 126, 7, 4), (17, 141, 123, 7, 4), (17, 145, 182, 0, 1), (17, 154, 124, 0, 2), (17, 158, 125, 7, 3), (17, 161, 127, 7, 3), (17, 164, 128, 7, 3), (17, 168, 104, 7, 2), (17, 174, 134, 7, 1), (17, 178, 132, 7, 5), (17, 182, 135, 7, 3), (17, 185, 133, 7, 2), (17, 189, 136, 7, 2), (17, 192, 137, 7, 3), (17, 195, 138, 7, 1), (17, 198, 140, 7, 2), (17, 201, 144, 7, 2), (17, 204, 148, 7, 2), (17, 207, 149, 7, 2), (17, 216, 152, 7, 4), (17, 220, 155, 7, 1), (17, 224, 184, 0, 1)]
def zMOK (own : String) (idx j rk n : Nat) : Prop := j ∈ zCl ∧ (Cond.methodLink own idx (zY j) : Jvm.Cond) ∈ zW ∧ (match rk with
  | 0 => (Cond.static (zY j) : Jvm.Cond) ∈ zW ∧ (parseMethodDescriptor (zY j).desc).map (fun d => d.parameters.length) = some n
  | 100 => (Cond.instanceMethod (zY j) : Jvm.Cond) ∈ zW ∧ (zY j).name = "<init>" ∧ zRT j = none ∧ zHH j = none ∧ (parseMethodDescriptor (zY j).desc).map (fun d => d.parameters.length + 1) = some n
  | r + 1 => (Cond.instanceMethod (zY j) : Jvm.Cond) ∈ zW ∧ (Cond.selects (zY j).cls (zY j) (zY j) : Jvm.Cond) ∈ zW ∧ zHH j = none ∧ zcl[r]? = some (zFq r) ∧ (zFq r).1 = (zY j).cls ∧ (parseMethodDescriptor (zY j).desc).map (fun d => d.parameters.length + 1) = some n)
def zMTab0 : List (Nat × Nat × Nat × Nat × Nat) := [(0, 105, 177, 0, 3), (3, 300, 180, 0, 3), (6, 1, 186, 100, 1), (6, 66, 179, 0, 2), (6, 69, 169, 8, 2), (6, 73, 178, 0, 3), (6, 118, 176, 0, 2), (6, 123, 172, 8, 2), (6, 129, 170, 8, 1), (6, 131, 166, 8, 4), (6, 135, 168, 8, 2), (6, 144, 174, 8, 3), (8, 1, 187, 100, 1), (9, 59, 185, 0, 1), (10, 7, 42, 6, 6), (10, 17, 43, 6, 5), (10, 21, 44, 6, 2), (10, 29, 45, 6, 3), (10, 33, 46, 6, 5), (10, 37, 47, 6, 2), (10, 40, 48, 6, 3), (10, 43, 49, 6, 3), (10, 46, 50, 6, 5), (10, 50, 52, 6, 2), (10, 53, 53, 6, 2), (10, 57, 54, 6, 2), (10, 62, 55, 6, 2), (10, 65, 57, 6, 2), (10, 68, 58, 6, 2), (10, 71, 59, 6, 2), (10, 74, 60, 6, 2), (10, 77, 61, 6, 2), (10, 80, 63, 6, 2), (10, 83, 64, 6, 3), (10, 86, 65, 6, 1), (10, 90, 66, 6, 1), (10, 94, 67, 6, 3), (10, 97, 68, 6, 3), (10, 100, 69, 6, 4), (10, 104, 70, 6, 3), (10, 108, 71, 6, 1), (10, 111, 74, 6, 2), (10, 114, 75, 6, 2), (10, 117, 76, 6, 1), (10, 120, 77, 6, 2), (10, 124, 41, 100, 1), (10, 127, 102, 100, 1), (10, 128, 188, 0, 7), (10, 133, 108, 7, 6), (10, 134, 103, 7, 1), (10, 137, 189, 0, 6), (10, 140, 109, 7, 5), (10, 141, 190, 0, 3), (10, 144, 111, 7, 2), (10, 145, 191, 0, 4), (10, 148, 112, 7, 3), (10, 149, 192, 0, 6), (10, 152, 115, 7, 5), (10, 153, 193, 0, 3), (10, 155, 116, 7, 2)]
set_option maxRecDepth 20000 in
theorem zMTab0_ok : ∀ x ∈ zMTab0, zMOK (zOwn.getD x.1 "") x.2.1 x.2.2.1 x.2.2.2.1 x.2.2.2.2 := by
  unfold zMTab0
  refine List.forall_mem_cons.mpr ⟨⟨by decide, zW_in 245 (by rfl) (by rfl), ⟨zW_in 246 (by rfl) (by rfl), by decide +kernel⟩⟩, ?_⟩
  refine List.forall_mem_cons.mpr ⟨⟨by decide, zW_in 583 (by rfl) (by rfl), ⟨zW_in 584 (by rfl) (by rfl), by decide +kernel⟩⟩, ?_⟩
  refine List.forall_mem_cons.mpr ⟨⟨by decide, zW_in 103 (by rfl) (by rfl), ⟨zW_in 104 (by rfl) (by rfl), rfl, rfl, rfl, by decide +kernel⟩⟩, ?_⟩
  refine List.forall_mem_cons.mpr ⟨⟨by decide, zW_in 561 (by rfl) (by rfl), ⟨zW_in 562 (by rfl) (by rfl), by decide +kernel⟩⟩, ?_⟩
  refine List.forall_mem_cons.mpr ⟨⟨by decide, zW_in 547 (by rfl) (by rfl), ⟨zW_in 549 (by rfl) (by rfl), zW_in 18 (by rfl) (by rfl), rfl, rfl, rfl, by decide +kernel⟩⟩, ?_⟩
  refine List.forall_mem_cons.mpr ⟨⟨by decide, zW_in 551 (by rfl) (by rfl), ⟨zW_in 552 (by rfl) (by rfl), by decide +kernel⟩⟩, ?_⟩
  refine List.forall_mem_cons.mpr ⟨⟨by decide, zW_in 242 (by rfl) (by rfl), ⟨zW_in 243 (by rfl) (by rfl), by decide +kernel⟩⟩, ?_⟩
  refine List.forall_mem_cons.mpr ⟨⟨by decide, zW_in 248 (by rfl) (by rfl), ⟨zW_in 249 (by rfl) (by rfl), zW_in 250 (by rfl) (by rfl), rfl, rfl, rfl, by decide +kernel⟩⟩, ?_⟩
  refine List.forall_mem_cons.mpr ⟨⟨by decide, zW_in 543 (by rfl) (by rfl), ⟨zW_in 545 (by rfl) (by rfl), zW_in 17 (by rfl) (by rfl), rfl, rfl, rfl, by decide +kernel⟩⟩, ?_⟩
  refine List.forall_mem_cons.mpr ⟨⟨by decide, zW_in 539 (by rfl) (by rfl), ⟨zW_in 541 (by rfl) (by rfl), zW_in 16 (by rfl) (by rfl), rfl, rfl, rfl, by decide +kernel⟩⟩, ?_⟩
  refine List.forall_mem_cons.mpr ⟨⟨by decide, zW_in 735 (by rfl) (by rfl), ⟨zW_in 737 (by rfl) (by rfl), zW_in 22 (by rfl) (by rfl), rfl, rfl, rfl, by decide +kernel⟩⟩, ?_⟩
  refine List.forall_mem_cons.mpr ⟨⟨by decide, zW_in 993 (by rfl) (by rfl), ⟨zW_in 995 (by rfl) (by rfl), zW_in 25 (by rfl) (by rfl), rfl, rfl, rfl, by decide +kernel⟩⟩, ?_⟩
  refine List.forall_mem_cons.mpr ⟨⟨by decide, zW_in 106 (by rfl) (by rfl), ⟨zW_in 107 (by rfl) (by rfl), rfl, rfl, rfl, by decide +kernel⟩⟩, ?_⟩
  refine List.forall_mem_cons.mpr ⟨⟨by decide, zW_in 1670 (by rfl) (by rfl), ⟨zW_in 1671 (by rfl) (by rfl), by decide +kernel⟩⟩, ?_⟩
  refine List.forall_mem_cons.mpr ⟨⟨by decide, zW_in 395 (by rfl) (by rfl), ⟨zW_in 396 (by rfl) (by rfl), zW_in 397 (by rfl) (by rfl), rfl, rfl, rfl, by decide +kernel⟩⟩, ?_⟩
  refine List.forall_mem_cons.mpr ⟨⟨by decide, zW_in 598 (by rfl) (by rfl), ⟨zW_in 599 (by rfl) (by rfl), zW_in 600 (by rfl) (by rfl), rfl, rfl, rfl, by decide +kernel⟩⟩, ?_⟩
  refine List.forall_mem_cons.mpr ⟨⟨by decide, zW_in 620 (by rfl) (by rfl), ⟨zW_in 621 (by rfl) (by rfl), zW_in 622 (by rfl) (by rfl), rfl, rfl, rfl, by decide +kernel⟩⟩, ?_⟩
  refine List.forall_mem_cons.mpr ⟨⟨by decide, zW_in 667 (by rfl) (by rfl), ⟨zW_in 668 (by rfl) (by rfl), zW_in 669 (by rfl) (by rfl), rfl, rfl, rfl, by decide +kernel⟩⟩, ?_⟩
  refine List.forall_mem_cons.mpr ⟨⟨by decide, zW_in 675 (by rfl) (by rfl), ⟨zW_in 676 (by rfl) (by rfl), zW_in 677 (by rfl) (by rfl), rfl, rfl, rfl, by decide +kernel⟩⟩, ?_⟩
  refine List.forall_mem_cons.mpr ⟨⟨by decide, zW_in 980 (by rfl) (by rfl), ⟨zW_in 981 (by rfl) (by rfl), zW_in 982 (by rfl) (by rfl), rfl, rfl, rfl, by decide +kernel⟩⟩, ?_⟩
  refine List.forall_mem_cons.mpr ⟨⟨by decide, zW_in 1000 (by rfl) (by rfl), ⟨zW_in 1001 (by rfl) (by rfl), zW_in 1002 (by rfl) (by rfl), rfl, rfl, rfl, by decide +kernel⟩⟩, ?_⟩
  refine List.forall_mem_cons.mpr ⟨⟨by decide, zW_in 1010 (by rfl) (by rfl), ⟨zW_in 1011 (by rfl) (by rfl), zW_in 1012 (by rfl) (by rfl), rfl, rfl, rfl, by decide +kernel⟩⟩, ?_⟩
  refine List.forall_mem_cons.mpr ⟨⟨by decide, zW_in 1022 (by rfl) (by rfl), ⟨zW_in 1023 (by rfl) (by rfl), zW_in 1024 (by rfl) (by rfl), rfl, rfl, rfl, by decide +kernel⟩⟩, ?_⟩
  refine List.forall_mem_cons.mpr ⟨⟨by decide, zW_in 1048 (by rfl) (by rfl), ⟨zW_in 1049 (by rfl) (by rfl), zW_in 1050 (by rfl) (by rfl), rfl, rfl, rfl, by decide +kernel⟩⟩, ?_⟩
  refine List.forall_mem_cons.mpr ⟨⟨by decide, zW_in 1055 (by rfl) (by rfl), ⟨zW_in 1056 (by rfl) (by rfl), zW_in 1057 (by rfl) (by rfl), rfl, rfl, rfl, by decide +kernel⟩⟩, ?_⟩
  refine List.forall_mem_cons.mpr ⟨⟨by decide, zW_in 1063 (by rfl) (by rfl), ⟨zW_in 1064 (by rfl) (by rfl), zW_in 1065 (by rfl) (by rfl), rfl, rfl, rfl, by decide +kernel⟩⟩, ?_⟩
  refine List.forall_mem_cons.mpr ⟨⟨by decide, zW_in 1090 (by rfl) (by rfl), ⟨zW_in 1091 (by rfl) (by rfl), zW_in 1092 (by rfl) (by rfl), rfl, rfl, rfl, by decide +kernel⟩⟩, ?_⟩
  refine List.forall_mem_cons.mpr ⟨⟨by decide, zW_in 1097 (by rfl) (by rfl), ⟨zW_in 1098 (by rfl) (by rfl), zW_in 1099 (by rfl) (by rfl), rfl, rfl, rfl, by decide +kernel⟩⟩, ?_⟩
  refine List.forall_mem_cons.mpr ⟨⟨by decide, zW_in 1109 (by rfl) (by rfl), ⟨zW_in 1110 (by rfl) (by rfl), zW_in 1111 (by rfl) (by rfl), rfl, rfl, rfl, by decide +kernel⟩⟩, ?_⟩
  refine List.forall_mem_cons.mpr ⟨⟨by decide, zW_in 1117 (by rfl) (by rfl), ⟨zW_in 1118 (by rfl) (by rfl), zW_in 1119 (by rfl) (by rfl), rfl, rfl, rfl, by decide +kernel⟩⟩, ?_⟩
  refine List.forall_mem_cons.mpr ⟨⟨by decide, zW_in 1124 (by rfl) (by rfl), ⟨zW_in 1125 (by rfl) (by rfl), zW_in 1126 (by rfl) (by rfl), rfl, rfl, rfl, by decide +kernel⟩⟩, ?_⟩
  refine List.forall_mem_cons.mpr ⟨⟨by decide, zW_in 1140 (by rfl) (by rfl), ⟨zW_in 1141 (by rfl) (by rfl), zW_in 1142 (by rfl) (by rfl), rfl, rfl, rfl, by decide +kernel⟩⟩, ?_⟩
  refine List.forall_mem_cons.mpr ⟨⟨by decide, zW_in 1151 (by rfl) (by rfl), ⟨zW_in 1152 (by rfl) (by rfl), zW_in 1153 (by rfl) (by rfl), rfl, rfl, rfl, by decide +kernel⟩⟩, ?_⟩
  refine List.forall_mem_cons.mpr ⟨⟨by decide, zW_in 1179 (by rfl) (by rfl), ⟨zW_in 1180 (by rfl) (by rfl), zW_in 1181 (by rfl) (by rfl), rfl, rfl, rfl, by decide +kernel⟩⟩, ?_⟩
  refine List.forall_mem_cons.mpr ⟨⟨by decide, zW_in 1190 (by rfl) (by rfl), ⟨zW_in 1191 (by rfl) (by rfl), zW_in 1192 (by rfl) (by rfl), rfl, rfl, rfl, by decide +kernel⟩⟩, ?_⟩
  refine List.forall_mem_cons.mpr ⟨⟨by decide, zW_in 1202 (by rfl) (by rfl), ⟨zW_in 1203 (by rfl) (by rfl), zW_in 1204 (by rfl) (by rfl), rfl, rfl, rfl, by decide +kernel⟩⟩, ?_⟩
  refine List.forall_mem_cons.mpr ⟨⟨by decide, zW_in 1213 (by rfl) (by rfl), ⟨zW_in 1214 (by rfl) (by rfl), zW_in 1215 (by rfl) (by rfl), rfl, rfl, rfl, by decide +kernel⟩⟩, ?_⟩
  refine List.forall_mem_cons.mpr ⟨⟨by decide, zW_in 1235 (by rfl) (by rfl), ⟨zW_in 1236 (by rfl) (by rfl), zW_in 1237 (by rfl) (by rfl), rfl, rfl, rfl, by decide +kernel⟩⟩, ?_⟩
  refine List.forall_mem_cons.mpr ⟨⟨by decide, zW_in 1251 (by rfl) (by rfl), ⟨zW_in 1252 (by rfl) (by rfl), zW_in 1253 (by rfl) (by rfl), rfl, rfl, rfl, by decide +kernel⟩⟩, ?_⟩
  refine List.forall_mem_cons.mpr ⟨⟨by decide, zW_in 1259 (by rfl) (by rfl), ⟨zW_in 1260 (by rfl) (by rfl), zW_in 1261 (by rfl) (by rfl), rfl, rfl, rfl, by decide +kernel⟩⟩, ?_⟩
  refine List.forall_mem_cons.mpr ⟨⟨by decide, zW_in 1267 (by rfl) (by rfl), ⟨zW_in 1268 (by rfl) (by rfl), zW_in 1269 (by rfl) (by rfl), rfl, rfl, rfl, by decide +kernel⟩⟩, ?_⟩
  refine List.forall_mem_cons.mpr ⟨⟨by decide, zW_in 1289 (by rfl) (by rfl), ⟨zW_in 1290 (by rfl) (by rfl), zW_in 1291 (by rfl) (by rfl), rfl, rfl, rfl, by decide +kernel⟩⟩, ?_⟩
  refine List.forall_mem_cons.mpr ⟨⟨by decide, zW_in 1301 (by rfl) (by rfl), ⟨zW_in 1302 (by rfl) (by rfl), zW_in 1303 (by rfl) (by rfl), rfl, rfl, rfl, by decide +kernel⟩⟩, ?_⟩
  refine List.forall_mem_cons.mpr ⟨⟨by decide, zW_in 1308 (by rfl) (by rfl), ⟨zW_in 1309 (by rfl) (by rfl), zW_in 1310 (by rfl) (by rfl), rfl, rfl, rfl, by decide +kernel⟩⟩, ?_⟩
  refine List.forall_mem_cons.mpr ⟨⟨by decide, zW_in 1322 (by rfl) (by rfl), ⟨zW_in 1323 (by rfl) (by rfl), zW_in 1324 (by rfl) (by rfl), rfl, rfl, rfl, by decide +kernel⟩⟩, ?_⟩
  refine List.forall_mem_cons.mpr ⟨⟨by decide, zW_in 92 (by rfl) (by rfl), ⟨zW_in 93 (by rfl) (by rfl), rfl, rfl, rfl, by decide +kernel⟩⟩, ?_⟩
  refine List.forall_mem_cons.mpr ⟨⟨by decide, zW_in 1328 (by rfl) (by rfl), ⟨zW_in 1329 (by rfl) (by rfl), rfl, rfl, rfl, by decide +kernel⟩⟩, ?_⟩
  refine List.forall_mem_cons.mpr ⟨⟨by decide, zW_in 390 (by rfl) (by rfl), ⟨zW_in 391 (by rfl) (by rfl), by decide +kernel⟩⟩, ?_⟩
  refine List.forall_mem_cons.mpr ⟨⟨by decide, zW_in 1441 (by rfl) (by rfl), ⟨zW_in 1442 (by rfl) (by rfl), zW_in 1443 (by rfl) (by rfl), rfl, rfl, rfl, by decide +kernel⟩⟩, ?_⟩
  refine List.forall_mem_cons.mpr ⟨⟨by decide, zW_in 1437 (by rfl) (by rfl), ⟨zW_in 1438 (by rfl) (by rfl), zW_in 1439 (by rfl) (by rfl), rfl, rfl, rfl, by decide +kernel⟩⟩, ?_⟩
  refine List.forall_mem_cons.mpr ⟨⟨by decide, zW_in 595 (by rfl) (by rfl), ⟨zW_in 596 (by rfl) (by rfl), by decide +kernel⟩⟩, ?_⟩
  refine List.forall_mem_cons.mpr ⟨⟨by decide, zW_in 1455 (by rfl) (by rfl), ⟨zW_in 1456 (by rfl) (by rfl), zW_in 1457 (by rfl) (by rfl), rfl, rfl, rfl, by decide +kernel⟩⟩, ?_⟩
  refine List.forall_mem_cons.mpr ⟨⟨by decide, zW_in 615 (by rfl) (by rfl), ⟨zW_in 616 (by rfl) (by rfl), by decide +kernel⟩⟩, ?_⟩
  refine List.forall_mem_cons.mpr ⟨⟨by decide, zW_in 1459 (by rfl) (by rfl), ⟨zW_in 1460 (by rfl) (by rfl), zW_in 1461 (by rfl) (by rfl), rfl, rfl, rfl, by decide +kernel⟩⟩, ?_⟩
  refine List.forall_mem_cons.mpr ⟨⟨by decide, zW_in 664 (by rfl) (by rfl), ⟨zW_in 665 (by rfl) (by rfl), by decide +kernel⟩⟩, ?_⟩
  refine List.forall_mem_cons.mpr ⟨⟨by decide, zW_in 1467 (by rfl) (by rfl), ⟨zW_in 1468 (by rfl) (by rfl), zW_in 1469 (by rfl) (by rfl), rfl, rfl, rfl, by decide +kernel⟩⟩, ?_⟩
  refine List.forall_mem_cons.mpr ⟨⟨by decide, zW_in 672 (by rfl) (by rfl), ⟨zW_in 673 (by rfl) (by rfl), by decide +kernel⟩⟩, ?_⟩
  refine List.forall_mem_cons.mpr ⟨⟨by decide, zW_in 1471 (by rfl) (by rfl), ⟨zW_in 1472 (by rfl) (by rfl), zW_in 1473 (by rfl) (by rfl), rfl, rfl, rfl, by decide +kernel⟩⟩, ?_⟩
  refine List.forall_mem_cons.mpr ⟨⟨by decide, zW_in 977 (by rfl) (by rfl), ⟨zW_in 978 (by rfl) (by rfl), by decide +kernel⟩⟩, ?_⟩
  refine List.forall_mem_cons.mpr ⟨⟨by decide, zW_in 1479 (by rfl) (by rfl), ⟨zW_in 1480 (by rfl) (by rfl), zW_in 1481 (by rfl) (by rfl), rfl, rfl, rfl, by decide +kernel⟩⟩, ?_⟩
  exact fun x h => absurd h List.not_mem_nil
def zMTab1 : List (Nat × Nat × Nat × Nat × Nat) := [(10, 156, 194, 0, 4), (10, 158, 117, 7, 3), (10, 159, 195, 0, 4), (10, 161, 118, 7, 3), (10, 162, 196, 0, 6), (10, 165, 119, 7, 5), (10, 166, 51, 6, 1), (10, 169, 120, 7, 1), (10, 170, 197, 0, 3), (10, 172, 121, 7, 2), (10, 173, 198, 0, 3), (10, 175, 139, 7, 2), (10, 176, 199, 0, 3), (10, 178, 141, 7, 2), (10, 179, 200, 0, 3), (10, 181, 142, 7, 2), (10, 182, 56, 6, 1), (10, 185, 143, 7, 1), (10, 186, 201, 0, 3), (10, 188, 145, 7, 2), (10, 189, 202, 0, 3), (10, 191, 146, 7, 2), (10, 192, 203, 0, 3), (10, 194, 147, 7, 2), (10, 195, 204, 0, 3), (10, 197, 149, 7, 2), (10, 198, 205, 0, 3), (10, 200, 150, 7, 2), (10, 201, 62, 6, 1), (10, 204, 151, 7, 1), (10, 205, 206, 0, 3), (10, 207, 153, 7, 2), (10, 208, 207, 0, 4), (10, 210, 154, 7, 3), (10, 211, 208, 0, 2), (10, 214, 155, 7, 1), (10, 215, 209, 0, 2), (10, 218, 156, 7, 1), (10, 219, 210, 0, 4), (10, 221, 128, 7, 3), (10, 222, 211, 0, 4), (10, 224, 129, 7, 3), (10, 225, 212, 0, 5), (10, 228, 130, 7, 4), (10, 229, 213, 0, 4), (10, 232, 131, 7, 3), (10, 233, 214, 0, 2), (10, 235, 157, 7, 1), (10, 236, 72, 6, 1), (10, 239, 158, 7, 1), (10, 240, 73, 6, 1), (10, 243, 159, 7, 1), (10, 244, 215, 0, 3), (10, 246, 160, 7, 2), (10, 247, 216, 0, 3), (10, 249, 161, 7, 2), (10, 250, 217, 0, 2), (10, 252, 162, 7, 1), (10, 253, 218, 0, 3), (10, 255, 163, 7, 2)]
set_option maxRecDepth 20000 in
theorem zMTab1_ok : ∀ x ∈ zMTab1, zMOK (zOwn.getD x.1 "") x.2.1 x.2.2.1 x.2.2.2.1 x.2.2.2.2 := by
  unfold zMTab1
  refine List.forall_mem_cons.mpr ⟨⟨by decide, zW_in 997 (by rfl) (by rfl), ⟨zW_in 998 (by rfl) (by rfl), by decide +kernel⟩⟩, ?_⟩
  refine List.forall_mem_cons.mpr ⟨⟨by decide, zW_in 1487 (by rfl) (by rfl), ⟨zW_in 1488 (by rfl) (by rfl), zW_in 1489 (by rfl) (by rfl), rfl, rfl, rfl, by decide +kernel⟩⟩, ?_⟩
  refine List.forall_mem_cons.mpr ⟨⟨by decide, zW_in 1007 (by rfl) (by rfl), ⟨zW_in 1008 (by rfl) (by rfl), by decide +kernel⟩⟩, ?_⟩
  refine List.forall_mem_cons.mpr ⟨⟨by decide, zW_in 1492 (by rfl) (by rfl), ⟨zW_in 1493 (by rfl) (by rfl), zW_in 1494 (by rfl) (by rfl), rfl, rfl, rfl, by decide +kernel⟩⟩, ?_⟩
  refine List.forall_mem_cons.mpr ⟨⟨by decide, zW_in 1019 (by rfl) (by rfl), ⟨zW_in 1020 (by rfl) (by rfl), by decide +kernel⟩⟩, ?_⟩
  refine List.forall_mem_cons.mpr ⟨⟨by decide, zW_in 1496 (by rfl) (by rfl), ⟨zW_in 1497 (by rfl) (by rfl), zW_in 1498 (by rfl) (by rfl), rfl, rfl, rfl, by decide +kernel⟩⟩, ?_⟩
  refine List.forall_mem_cons.mpr ⟨⟨by decide, zW_in 214 (by rfl) (by rfl), ⟨zW_in 215 (by rfl) (by rfl), zW_in 216 (by rfl) (by rfl), rfl, rfl, rfl, by decide +kernel⟩⟩, ?_⟩
  refine List.forall_mem_cons.mpr ⟨⟨by decide, zW_in 1500 (by rfl) (by rfl), ⟨zW_in 1501 (by rfl) (by rfl), zW_in 1502 (by rfl) (by rfl), rfl, rfl, rfl, by decide +kernel⟩⟩, ?_⟩
  refine List.forall_mem_cons.mpr ⟨⟨by decide, zW_in 1045 (by rfl) (by rfl), ⟨zW_in 1046 (by rfl) (by rfl), by decide +kernel⟩⟩, ?_⟩
  refine List.forall_mem_cons.mpr ⟨⟨by decide, zW_in 1504 (by rfl) (by rfl), ⟨zW_in 1505 (by rfl) (by rfl), zW_in 1506 (by rfl) (by rfl), rfl, rfl, rfl, by decide +kernel⟩⟩, ?_⟩
  refine List.forall_mem_cons.mpr ⟨⟨by decide, zW_in 1052 (by rfl) (by rfl), ⟨zW_in 1053 (by rfl) (by rfl), by decide +kernel⟩⟩, ?_⟩
  refine List.forall_mem_cons.mpr ⟨⟨by decide, zW_in 1563 (by rfl) (by rfl), ⟨zW_in 1564 (by rfl) (by rfl), zW_in 1565 (by rfl) (by rfl), rfl, rfl, rfl, by decide +kernel⟩⟩, ?_⟩
  refine List.forall_mem_cons.mpr ⟨⟨by decide, zW_in 1059 (by rfl) (by rfl), ⟨zW_in 1060 (by rfl) (by rfl), by decide +kernel⟩⟩, ?_⟩
  refine List.forall_mem_cons.mpr ⟨⟨by decide, zW_in 1595 (by rfl) (by rfl), ⟨zW_in 1596 (by rfl) (by rfl), zW_in 1597 (by rfl) (by rfl), rfl, rfl, rfl, by decide +kernel⟩⟩, ?_⟩
  refine List.forall_mem_cons.mpr ⟨⟨by decide, zW_in 1087 (by rfl) (by rfl), ⟨zW_in 1088 (by rfl) (by rfl), by decide +kernel⟩⟩, ?_⟩
  refine List.forall_mem_cons.mpr ⟨⟨by decide, zW_in 1603 (by rfl) (by rfl), ⟨zW_in 1604 (by rfl) (by rfl), zW_in 1605 (by rfl) (by rfl), rfl, rfl, rfl, by decide +kernel⟩⟩, ?_⟩
  refine List.forall_mem_cons.mpr ⟨⟨by decide, zW_in 222 (by rfl) (by rfl), ⟨zW_in 223 (by rfl) (by rfl), zW_in 224 (by rfl) (by rfl), rfl, rfl, rfl, by decide +kernel⟩⟩, ?_⟩
  refine List.forall_mem_cons.mpr ⟨⟨by decide, zW_in 1607 (by rfl) (by rfl), ⟨zW_in 1608 (by rfl) (by rfl), zW_in 1609 (by rfl) (by rfl), rfl, rfl, rfl, by decide +kernel⟩⟩, ?_⟩
  refine List.forall_mem_cons.mpr ⟨⟨by decide, zW_in 1094 (by rfl) (by rfl), ⟨zW_in 1095 (by rfl) (by rfl), by decide +kernel⟩⟩, ?_⟩
  refine List.forall_mem_cons.mpr ⟨⟨by decide, zW_in 1611 (by rfl) (by rfl), ⟨zW_in 1612 (by rfl) (by rfl), zW_in 1613 (by rfl) (by rfl), rfl, rfl, rfl, by decide +kernel⟩⟩, ?_⟩
  refine List.forall_mem_cons.mpr ⟨⟨by decide, zW_in 1106 (by rfl) (by rfl), ⟨zW_in 1107 (by rfl) (by rfl), by decide +kernel⟩⟩, ?_⟩
  refine List.forall_mem_cons.mpr ⟨⟨by decide, zW_in 1619 (by rfl) (by rfl), ⟨zW_in 1620 (by rfl) (by rfl), zW_in 1621 (by rfl) (by rfl), rfl, rfl, rfl, by decide +kernel⟩⟩, ?_⟩
  refine List.forall_mem_cons.mpr ⟨⟨by decide, zW_in 1114 (by rfl) (by rfl), ⟨zW_in 1115 (by rfl) (by rfl), by decide +kernel⟩⟩, ?_⟩
  refine List.forall_mem_cons.mpr ⟨⟨by decide, zW_in 1623 (by rfl) (by rfl), ⟨zW_in 1624 (by rfl) (by rfl), zW_in 1625 (by rfl) (by rfl), rfl, rfl, rfl, by decide +kernel⟩⟩, ?_⟩
  refine List.forall_mem_cons.mpr ⟨⟨by decide, zW_in 1121 (by rfl) (by rfl), ⟨zW_in 1122 (by rfl) (by rfl), by decide +kernel⟩⟩, ?_⟩
  refine List.forall_mem_cons.mpr ⟨⟨by decide, zW_in 1627 (by rfl) (by rfl), ⟨zW_in 1628 (by rfl) (by rfl), zW_in 1629 (by rfl) (by rfl), rfl, rfl, rfl, by decide +kernel⟩⟩, ?_⟩
  refine List.forall_mem_cons.mpr ⟨⟨by decide, zW_in 1137 (by rfl) (by rfl), ⟨zW_in 1138 (by rfl) (by rfl), by decide +kernel⟩⟩, ?_⟩
  refine List.forall_mem_cons.mpr ⟨⟨by decide, zW_in 1635 (by rfl) (by rfl), ⟨zW_in 1636 (by rfl) (by rfl), zW_in 1637 (by rfl) (by rfl), rfl, rfl, rfl, by decide +kernel⟩⟩, ?_⟩
  refine List.forall_mem_cons.mpr ⟨⟨by decide, zW_in 366 (by rfl) (by rfl), ⟨zW_in 367 (by rfl) (by rfl), zW_in 368 (by rfl) (by rfl), rfl, rfl, rfl, by decide +kernel⟩⟩, ?_⟩
  refine List.forall_mem_cons.mpr ⟨⟨by decide, zW_in 1640 (by rfl) (by rfl), ⟨zW_in 1641 (by rfl) (by rfl), zW_in 1642 (by rfl) (by rfl), rfl, rfl, rfl, by decide +kernel⟩⟩, ?_⟩
  refine List.forall_mem_cons.mpr ⟨⟨by decide, zW_in 1148 (by rfl) (by rfl), ⟨zW_in 1149 (by rfl) (by rfl), by decide +kernel⟩⟩, ?_⟩
  refine List.forall_mem_cons.mpr ⟨⟨by decide, zW_in 1644 (by rfl) (by rfl), ⟨zW_in 1645 (by rfl) (by rfl), zW_in 1646 (by rfl) (by rfl), rfl, rfl, rfl, by decide +kernel⟩⟩, ?_⟩
  refine List.forall_mem_cons.mpr ⟨⟨by decide, zW_in 1176 (by rfl) (by rfl), ⟨zW_in 1177 (by rfl) (by rfl), by decide +kernel⟩⟩, ?_⟩
  refine List.forall_mem_cons.mpr ⟨⟨by decide, zW_in 1654 (by rfl) (by rfl), ⟨zW_in 1655 (by rfl) (by rfl), zW_in 1656 (by rfl) (by rfl), rfl, rfl, rfl, by decide +kernel⟩⟩, ?_⟩
  refine List.forall_mem_cons.mpr ⟨⟨by decide, zW_in 1187 (by rfl) (by rfl), ⟨zW_in 1188 (by rfl) (by rfl), by decide +kernel⟩⟩, ?_⟩
  refine List.forall_mem_cons.mpr ⟨⟨by decide, zW_in 1658 (by rfl) (by rfl), ⟨zW_in 1659 (by rfl) (by rfl), zW_in 1660 (by rfl) (by rfl), rfl, rfl, rfl, by decide +kernel⟩⟩, ?_⟩
  refine List.forall_mem_cons.mpr ⟨⟨by decide, zW_in 1199 (by rfl) (by rfl), ⟨zW_in 1200 (by rfl) (by rfl), by decide +kernel⟩⟩, ?_⟩
  refine List.forall_mem_cons.mpr ⟨⟨by decide, zW_in 1662 (by rfl) (by rfl), ⟨zW_in 1663 (by rfl) (by rfl), zW_in 1664 (by rfl) (by rfl), rfl, rfl, rfl, by decide +kernel⟩⟩, ?_⟩
  refine List.forall_mem_cons.mpr ⟨⟨by decide, zW_in 1210 (by rfl) (by rfl), ⟨zW_in 1211 (by rfl) (by rfl), by decide +kernel⟩⟩, ?_⟩
  refine List.forall_mem_cons.mpr ⟨⟨by decide, zW_in 1508 (by rfl) (by rfl), ⟨zW_in 1509 (by rfl) (by rfl), zW_in 1510 (by rfl) (by rfl), rfl, rfl, rfl, by decide +kernel⟩⟩, ?_⟩
  refine List.forall_mem_cons.mpr ⟨⟨by decide, zW_in 1232 (by rfl) (by rfl), ⟨zW_in 1233 (by rfl) (by rfl), by decide +kernel⟩⟩, ?_⟩
  refine List.forall_mem_cons.mpr ⟨⟨by decide, zW_in 1546 (by rfl) (by rfl), ⟨zW_in 1547 (by rfl) (by rfl), zW_in 1548 (by rfl) (by rfl), rfl, rfl, rfl, by decide +kernel⟩⟩, ?_⟩
  refine List.forall_mem_cons.mpr ⟨⟨by decide, zW_in 1248 (by rfl) (by rfl), ⟨zW_in 1249 (by rfl) (by rfl), by decide +kernel⟩⟩, ?_⟩
  refine List.forall_mem_cons.mpr ⟨⟨by decide, zW_in 1551 (by rfl) (by rfl), ⟨zW_in 1552 (by rfl) (by rfl), zW_in 1553 (by rfl) (by rfl), rfl, rfl, rfl, by decide +kernel⟩⟩, ?_⟩
  refine List.forall_mem_cons.mpr ⟨⟨by decide, zW_in 1256 (by rfl) (by rfl), ⟨zW_in 1257 (by rfl) (by rfl), by decide +kernel⟩⟩, ?_⟩
  refine List.forall_mem_cons.mpr ⟨⟨by decide, zW_in 1559 (by rfl) (by rfl), ⟨zW_in 1560 (by rfl) (by rfl), zW_in 1561 (by rfl) (by rfl), rfl, rfl, rfl, by decide +kernel⟩⟩, ?_⟩
  refine List.forall_mem_cons.mpr ⟨⟨by decide, zW_in 1264 (by rfl) (by rfl), ⟨zW_in 1265 (by rfl) (by rfl), by decide +kernel⟩⟩, ?_⟩
  refine List.forall_mem_cons.mpr ⟨⟨by decide, zW_in 1675 (by rfl) (by rfl), ⟨zW_in 1676 (by rfl) (by rfl), zW_in 1677 (by rfl) (by rfl), rfl, rfl, rfl, by decide +kernel⟩⟩, ?_⟩
  refine List.forall_mem_cons.mpr ⟨⟨by decide, zW_in 382 (by rfl) (by rfl), ⟨zW_in 383 (by rfl) (by rfl), zW_in 384 (by rfl) (by rfl), rfl, rfl, rfl, by decide +kernel⟩⟩, ?_⟩
  refine List.forall_mem_cons.mpr ⟨⟨by decide, zW_in 1679 (by rfl) (by rfl), ⟨zW_in 1680 (by rfl) (by rfl), zW_in 1681 (by rfl) (by rfl), rfl, rfl, rfl, by decide +kernel⟩⟩, ?_⟩
  refine List.forall_mem_cons.mpr ⟨⟨by decide, zW_in 386 (by rfl) (by rfl), ⟨zW_in 387 (by rfl) (by rfl), zW_in 388 (by rfl) (by rfl), rfl, rfl, rfl, by decide +kernel⟩⟩, ?_⟩
  refine List.forall_mem_cons.mpr ⟨⟨by decide, zW_in 1683 (by rfl) (by rfl), ⟨zW_in 1684 (by rfl) (by rfl), zW_in 1685 (by rfl) (by rfl), rfl, rfl, rfl, by decide +kernel⟩⟩, ?_⟩
  refine List.forall_mem_cons.mpr ⟨⟨by decide, zW_in 1286 (by rfl) (by rfl), ⟨zW_in 1287 (by rfl) (by rfl), by decide +kernel⟩⟩, ?_⟩
  refine List.forall_mem_cons.mpr ⟨⟨by decide, zW_in 1687 (by rfl) (by rfl), ⟨zW_in 1688 (by rfl) (by rfl), zW_in 1689 (by rfl) (by rfl), rfl, rfl, rfl, by decide +kernel⟩⟩, ?_⟩
  refine List.forall_mem_cons.mpr ⟨⟨by decide, zW_in 1298 (by rfl) (by rfl), ⟨zW_in 1299 (by rfl) (by rfl), by decide +kernel⟩⟩, ?_⟩
  refine List.forall_mem_cons.mpr ⟨⟨by decide, zW_in 1691 (by rfl) (by rfl), ⟨zW_in 1692 (by rfl) (by rfl), zW_in 1693 (by rfl) (by rfl), rfl, rfl, rfl, by decide +kernel⟩⟩, ?_⟩
  refine List.forall_mem_cons.mpr ⟨⟨by decide, zW_in 1305 (by rfl) (by rfl), ⟨zW_in 1306 (by rfl) (by rfl), by decide +kernel⟩⟩, ?_⟩
  refine List.forall_mem_cons.mpr ⟨⟨by decide, zW_in 1695 (by rfl) (by rfl), ⟨zW_in 1696 (by rfl) (by rfl), zW_in 1697 (by rfl) (by rfl), rfl, rfl, rfl, by decide +kernel⟩⟩, ?_⟩
  refine List.forall_mem_cons.mpr ⟨⟨by decide, zW_in 1319 (by rfl) (by rfl), ⟨zW_in 1320 (by rfl) (by rfl), by decide +kernel⟩⟩, ?_⟩
  refine List.forall_mem_cons.mpr ⟨⟨by decide, zW_in 1699 (by rfl) (by rfl), ⟨zW_in 1700 (by rfl) (by rfl), zW_in 1701 (by rfl) (by rfl), rfl, rfl, rfl, by decide +kernel⟩⟩, ?_⟩
  exact fun x h => absurd h List.not_mem_nil
def zMTab2 : List (Nat × Nat × Nat × Nat × Nat) := [(12, 25, 164, 100, 1), (12, 55, 175, 8, 1), (12, 59, 171, 8, 2), (12, 65, 25, 4, 3), (12, 68, 26, 4, 3), (13, 49, 175, 8, 1), (13, 55, 171, 8, 2), (13, 64, 1, 1, 2), (13, 77, 10, 3, 3), (13, 81, 13, 3, 2), (13, 85, 12, 3, 2), (13, 88, 16, 3, 1), (13, 91, 18, 3, 2), (13, 95, 14, 3, 4), (13, 99, 181, 0, 2), (13, 105, 17, 3, 3), (13, 109, 21, 3, 3), (13, 113, 19, 3, 3), (13, 116, 20, 3, 1), (13, 119, 182, 0, 1), (13, 124, 22, 3, 2), (14, 22, 27, 4, 3), (15, 25, 35, 5, 2), (15, 29, 33, 5, 2), (15, 33, 29, 5, 1), (15, 36, 34, 5, 2), (15, 39, 36, 5, 2), (15, 42, 30, 5, 4), (16, 11, 164, 100, 1), (16, 21, 28, 100, 1), (16, 31, 8, 100, 1), (16, 47, 78, 0, 4), (16, 58, 79, 6, 1), (16, 61, 175, 8, 1), (16, 67, 0, 100, 8), (16, 70, 165, 8, 2), (16, 74, 90, 6, 1), (16, 82, 9, 3, 3), (16, 86, 86, 6, 2), (16, 108, 2, 100, 4), (16, 111, 167, 8, 3), (16, 114, 81, 6, 2), (16, 118, 173, 8, 2), (16, 128, 87, 6, 2), (16, 150, 24, 100, 4), (16, 160, 91, 6, 1), (16, 166, 6, 2, 1), (16, 179, 88, 6, 2), (16, 188, 82, 6, 2), (16, 191, 34, 5, 2), (16, 194, 35, 5, 2), (16, 197, 37, 5, 2), (16, 200, 84, 0, 1), (16, 203, 38, 5, 2), (16, 206, 39, 5, 2), (16, 209, 171, 8, 2), (16, 212, 7, 2, 2), (16, 217, 25, 4, 3), (16, 221, 26, 4, 3), (16, 229, 100, 6, 1)]
set_option maxRecDepth 20000 in
theorem zMTab2_ok : ∀ x ∈ zMTab2, zMOK (zOwn.getD x.1 "") x.2.1 x.2.2.1 x.2.2.2.1 x.2.2.2.2 := by
  unfold zMTab2
  refine List.forall_mem_cons.mpr ⟨⟨by decide, zW_in 689 (by rfl) (by rfl), ⟨zW_in 101 (by rfl) (by rfl), rfl, rfl, rfl, by decide +kernel⟩⟩, ?_⟩
  refine List.forall_mem_cons.mpr ⟨⟨by decide, zW_in 1159 (by rfl) (by rfl), ⟨zW_in 219 (by rfl) (by rfl), zW_in 220 (by rfl) (by rfl), rfl, rfl, rfl, by decide +kernel⟩⟩, ?_⟩
  refine List.forall_mem_cons.mpr ⟨⟨by decide, zW_in 1160 (by rfl) (by rfl), ⟨zW_in 239 (by rfl) (by rfl), zW_in 240 (by rfl) (by rfl), rfl, rfl, rfl, by decide +kernel⟩⟩, ?_⟩
  refine List.forall_mem_cons.mpr ⟨⟨by decide, zW_in 1162 (by rfl) (by rfl), ⟨zW_in 1163 (by rfl) (by rfl), zW_in 1164 (by rfl) (by rfl), rfl, rfl, rfl, by decide +kernel⟩⟩, ?_⟩
  refine List.forall_mem_cons.mpr ⟨⟨by decide, zW_in 1171 (by rfl) (by rfl), ⟨zW_in 1172 (by rfl) (by rfl), zW_in 1173 (by rfl) (by rfl), rfl, rfl, rfl, by decide +kernel⟩⟩, ?_⟩
  refine List.forall_mem_cons.mpr ⟨⟨by decide, zW_in 611 (by rfl) (by rfl), ⟨zW_in 219 (by rfl) (by rfl), zW_in 220 (by rfl) (by rfl), rfl, rfl, rfl, by decide +kernel⟩⟩, ?_⟩
  refine List.forall_mem_cons.mpr ⟨⟨by decide, zW_in 612 (by rfl) (by rfl), ⟨zW_in 239 (by rfl) (by rfl), zW_in 240 (by rfl) (by rfl), rfl, rfl, rfl, by decide +kernel⟩⟩, ?_⟩
  refine List.forall_mem_cons.mpr ⟨⟨by decide, zW_in 614 (by rfl) (by rfl), ⟨zW_in 262 (by rfl) (by rfl), zW_in 263 (by rfl) (by rfl), rfl, rfl, rfl, by decide +kernel⟩⟩, ?_⟩
  refine List.forall_mem_cons.mpr ⟨⟨by decide, zW_in 323 (by rfl) (by rfl), ⟨zW_in 324 (by rfl) (by rfl), zW_in 325 (by rfl) (by rfl), rfl, rfl, rfl, by decide +kernel⟩⟩, ?_⟩
  refine List.forall_mem_cons.mpr ⟨⟨by decide, zW_in 327 (by rfl) (by rfl), ⟨zW_in 329 (by rfl) (by rfl), zW_in 12 (by rfl) (by rfl), rfl, rfl, rfl, by decide +kernel⟩⟩, ?_⟩
  refine List.forall_mem_cons.mpr ⟨⟨by decide, zW_in 295 (by rfl) (by rfl), ⟨zW_in 296 (by rfl) (by rfl), zW_in 297 (by rfl) (by rfl), rfl, rfl, rfl, by decide +kernel⟩⟩, ?_⟩
  refine List.forall_mem_cons.mpr ⟨⟨by decide, zW_in 288 (by rfl) (by rfl), ⟨zW_in 290 (by rfl) (by rfl), zW_in 6 (by rfl) (by rfl), rfl, rfl, rfl, by decide +kernel⟩⟩, ?_⟩
  refine List.forall_mem_cons.mpr ⟨⟨by decide, zW_in 303 (by rfl) (by rfl), ⟨zW_in 305 (by rfl) (by rfl), zW_in 8 (by rfl) (by rfl), rfl, rfl, rfl, by decide +kernel⟩⟩, ?_⟩
  refine List.forall_mem_cons.mpr ⟨⟨by decide, zW_in 319 (by rfl) (by rfl), ⟨zW_in 320 (by rfl) (by rfl), zW_in 321 (by rfl) (by rfl), rfl, rfl, rfl, by decide +kernel⟩⟩, ?_⟩
  refine List.forall_mem_cons.mpr ⟨⟨by decide, zW_in 292 (by rfl) (by rfl), ⟨zW_in 293 (by rfl) (by rfl), by decide +kernel⟩⟩, ?_⟩
  refine List.forall_mem_cons.mpr ⟨⟨by decide, zW_in 299 (by rfl) (by rfl), ⟨zW_in 301 (by rfl) (by rfl), zW_in 7 (by rfl) (by rfl), rfl, rfl, rfl, by decide +kernel⟩⟩, ?_⟩
  refine List.forall_mem_cons.mpr ⟨⟨by decide, zW_in 307 (by rfl) (by rfl), ⟨zW_in 309 (by rfl) (by rfl), zW_in 9 (by rfl) (by rfl), rfl, rfl, rfl, by decide +kernel⟩⟩, ?_⟩
  refine List.forall_mem_cons.mpr ⟨⟨by decide, zW_in 311 (by rfl) (by rfl), ⟨zW_in 313 (by rfl) (by rfl), zW_in 10 (by rfl) (by rfl), rfl, rfl, rfl, by decide +kernel⟩⟩, ?_⟩
  refine List.forall_mem_cons.mpr ⟨⟨by decide, zW_in 315 (by rfl) (by rfl), ⟨zW_in 317 (by rfl) (by rfl), zW_in 11 (by rfl) (by rfl), rfl, rfl, rfl, by decide +kernel⟩⟩, ?_⟩
  refine List.forall_mem_cons.mpr ⟨⟨by decide, zW_in 1243 (by rfl) (by rfl), ⟨zW_in 1227 (by rfl) (by rfl), by decide +kernel⟩⟩, ?_⟩
  refine List.forall_mem_cons.mpr ⟨⟨by decide, zW_in 1244 (by rfl) (by rfl), ⟨zW_in 1246 (by rfl) (by rfl), zW_in 32 (by rfl) (by rfl), rfl, rfl, rfl, by decide +kernel⟩⟩, ?_⟩
  refine List.forall_mem_cons.mpr ⟨⟨by decide, zW_in 1166 (by rfl) (by rfl), ⟨zW_in 1168 (by rfl) (by rfl), zW_in 29 (by rfl) (by rfl), rfl, rfl, rfl, by decide +kernel⟩⟩, ?_⟩
  refine List.forall_mem_cons.mpr ⟨⟨by decide, zW_in 349 (by rfl) (by rfl), ⟨zW_in 350 (by rfl) (by rfl), zW_in 351 (by rfl) (by rfl), rfl, rfl, rfl, by decide +kernel⟩⟩, ?_⟩
  refine List.forall_mem_cons.mpr ⟨⟨by decide, zW_in 353 (by rfl) (by rfl), ⟨zW_in 354 (by rfl) (by rfl), zW_in 355 (by rfl) (by rfl), rfl, rfl, rfl, by decide +kernel⟩⟩, ?_⟩
  refine List.forall_mem_cons.mpr ⟨⟨by decide, zW_in 1276 (by rfl) (by rfl), ⟨zW_in 235 (by rfl) (by rfl), zW_in 236 (by rfl) (by rfl), rfl, rfl, rfl, by decide +kernel⟩⟩, ?_⟩
  refine List.forall_mem_cons.mpr ⟨⟨by decide, zW_in 1136 (by rfl) (by rfl), ⟨zW_in 371 (by rfl) (by rfl), zW_in 372 (by rfl) (by rfl), rfl, rfl, rfl, by decide +kernel⟩⟩, ?_⟩
  refine List.forall_mem_cons.mpr ⟨⟨by decide, zW_in 378 (by rfl) (by rfl), ⟨zW_in 379 (by rfl) (by rfl), zW_in 380 (by rfl) (by rfl), rfl, rfl, rfl, by decide +kernel⟩⟩, ?_⟩
  refine List.forall_mem_cons.mpr ⟨⟨by decide, zW_in 1277 (by rfl) (by rfl), ⟨zW_in 332 (by rfl) (by rfl), zW_in 333 (by rfl) (by rfl), rfl, rfl, rfl, by decide +kernel⟩⟩, ?_⟩
  refine List.forall_mem_cons.mpr ⟨⟨by decide, zW_in 100 (by rfl) (by rfl), ⟨zW_in 101 (by rfl) (by rfl), rfl, rfl, rfl, by decide +kernel⟩⟩, ?_⟩
  refine List.forall_mem_cons.mpr ⟨⟨by decide, zW_in 126 (by rfl) (by rfl), ⟨zW_in 127 (by rfl) (by rfl), rfl, rfl, rfl, by decide +kernel⟩⟩, ?_⟩
  refine List.forall_mem_cons.mpr ⟨⟨by decide, zW_in 147 (by rfl) (by rfl), ⟨zW_in 148 (by rfl) (by rfl), rfl, rfl, rfl, by decide +kernel⟩⟩, ?_⟩
  refine List.forall_mem_cons.mpr ⟨⟨by decide, zW_in 399 (by rfl) (by rfl), ⟨zW_in 400 (by rfl) (by rfl), by decide +kernel⟩⟩, ?_⟩
  refine List.forall_mem_cons.mpr ⟨⟨by decide, zW_in 474 (by rfl) (by rfl), ⟨zW_in 476 (by rfl) (by rfl), zW_in 15 (by rfl) (by rfl), rfl, rfl, rfl, by decide +kernel⟩⟩, ?_⟩
  refine List.forall_mem_cons.mpr ⟨⟨by decide, zW_in 218 (by rfl) (by rfl), ⟨zW_in 219 (by rfl) (by rfl), zW_in 220 (by rfl) (by rfl), rfl, rfl, rfl, by decide +kernel⟩⟩, ?_⟩
  refine List.forall_mem_cons.mpr ⟨⟨by decide, zW_in 496 (by rfl) (by rfl), ⟨zW_in 497 (by rfl) (by rfl), rfl, rfl, rfl, by decide +kernel⟩⟩, ?_⟩
  refine List.forall_mem_cons.mpr ⟨⟨by decide, zW_in 535 (by rfl) (by rfl), ⟨zW_in 536 (by rfl) (by rfl), zW_in 537 (by rfl) (by rfl), rfl, rfl, rfl, by decide +kernel⟩⟩, ?_⟩
  refine List.forall_mem_cons.mpr ⟨⟨by decide, zW_in 602 (by rfl) (by rfl), ⟨zW_in 604 (by rfl) (by rfl), zW_in 19 (by rfl) (by rfl), rfl, rfl, rfl, by decide +kernel⟩⟩, ?_⟩
  refine List.forall_mem_cons.mpr ⟨⟨by decide, zW_in 607 (by rfl) (by rfl), ⟨zW_in 608 (by rfl) (by rfl), zW_in 609 (by rfl) (by rfl), rfl, rfl, rfl, by decide +kernel⟩⟩, ?_⟩
  refine List.forall_mem_cons.mpr ⟨⟨by decide, zW_in 624 (by rfl) (by rfl), ⟨zW_in 626 (by rfl) (by rfl), zW_in 20 (by rfl) (by rfl), rfl, rfl, rfl, by decide +kernel⟩⟩, ?_⟩
  refine List.forall_mem_cons.mpr ⟨⟨by decide, zW_in 684 (by rfl) (by rfl), ⟨zW_in 685 (by rfl) (by rfl), rfl, rfl, rfl, by decide +kernel⟩⟩, ?_⟩
  refine List.forall_mem_cons.mpr ⟨⟨by decide, zW_in 731 (by rfl) (by rfl), ⟨zW_in 732 (by rfl) (by rfl), zW_in 733 (by rfl) (by rfl), rfl, rfl, rfl, by decide +kernel⟩⟩, ?_⟩
  refine List.forall_mem_cons.mpr ⟨⟨by decide, zW_in 984 (by rfl) (by rfl), ⟨zW_in 986 (by rfl) (by rfl), zW_in 24 (by rfl) (by rfl), rfl, rfl, rfl, by decide +kernel⟩⟩, ?_⟩
  refine List.forall_mem_cons.mpr ⟨⟨by decide, zW_in 989 (by rfl) (by rfl), ⟨zW_in 990 (by rfl) (by rfl), zW_in 991 (by rfl) (by rfl), rfl, rfl, rfl, by decide +kernel⟩⟩, ?_⟩
  refine List.forall_mem_cons.mpr ⟨⟨by decide, zW_in 1014 (by rfl) (by rfl), ⟨zW_in 1016 (by rfl) (by rfl), zW_in 26 (by rfl) (by rfl), rfl, rfl, rfl, by decide +kernel⟩⟩, ?_⟩
  refine List.forall_mem_cons.mpr ⟨⟨by decide, zW_in 1031 (by rfl) (by rfl), ⟨zW_in 1032 (by rfl) (by rfl), rfl, rfl, rfl, by decide +kernel⟩⟩, ?_⟩
  refine List.forall_mem_cons.mpr ⟨⟨by decide, zW_in 226 (by rfl) (by rfl), ⟨zW_in 228 (by rfl) (by rfl), zW_in 0 (by rfl) (by rfl), rfl, rfl, rfl, by decide +kernel⟩⟩, ?_⟩
  refine List.forall_mem_cons.mpr ⟨⟨by decide, zW_in 276 (by rfl) (by rfl), ⟨zW_in 277 (by rfl) (by rfl), zW_in 278 (by rfl) (by rfl), rfl, rfl, rfl, by decide +kernel⟩⟩, ?_⟩
  refine List.forall_mem_cons.mpr ⟨⟨by decide, zW_in 1067 (by rfl) (by rfl), ⟨zW_in 1069 (by rfl) (by rfl), zW_in 27 (by rfl) (by rfl), rfl, rfl, rfl, by decide +kernel⟩⟩, ?_⟩
  refine List.forall_mem_cons.mpr ⟨⟨by decide, zW_in 1101 (by rfl) (by rfl), ⟨zW_in 1103 (by rfl) (by rfl), zW_in 28 (by rfl) (by rfl), rfl, rfl, rfl, by decide +kernel⟩⟩, ?_⟩
  refine List.forall_mem_cons.mpr ⟨⟨by decide, zW_in 370 (by rfl) (by rfl), ⟨zW_in 371 (by rfl) (by rfl), zW_in 372 (by rfl) (by rfl), rfl, rfl, rfl, by decide +kernel⟩⟩, ?_⟩
  refine List.forall_mem_cons.mpr ⟨⟨by decide, zW_in 1113 (by rfl) (by rfl), ⟨zW_in 350 (by rfl) (by rfl), zW_in 351 (by rfl) (by rfl), rfl, rfl, rfl, by decide +kernel⟩⟩, ?_⟩
  refine List.forall_mem_cons.mpr ⟨⟨by decide, zW_in 374 (by rfl) (by rfl), ⟨zW_in 375 (by rfl) (by rfl), zW_in 376 (by rfl) (by rfl), rfl, rfl, rfl, by decide +kernel⟩⟩, ?_⟩
  refine List.forall_mem_cons.mpr ⟨⟨by decide, zW_in 1128 (by rfl) (by rfl), ⟨zW_in 1129 (by rfl) (by rfl), by decide +kernel⟩⟩, ?_⟩
  refine List.forall_mem_cons.mpr ⟨⟨by decide, zW_in 1132 (by rfl) (by rfl), ⟨zW_in 1133 (by rfl) (by rfl), zW_in 1134 (by rfl) (by rfl), rfl, rfl, rfl, by decide +kernel⟩⟩, ?_⟩
  refine List.forall_mem_cons.mpr ⟨⟨by decide, zW_in 1144 (by rfl) (by rfl), ⟨zW_in 1145 (by rfl) (by rfl), zW_in 1146 (by rfl) (by rfl), rfl, rfl, rfl, by decide +kernel⟩⟩, ?_⟩
  refine List.forall_mem_cons.mpr ⟨⟨by decide, zW_in 238 (by rfl) (by rfl), ⟨zW_in 239 (by rfl) (by rfl), zW_in 240 (by rfl) (by rfl), rfl, rfl, rfl, by decide +kernel⟩⟩, ?_⟩
  refine List.forall_mem_cons.mpr ⟨⟨by decide, zW_in 1155 (by rfl) (by rfl), ⟨zW_in 1156 (by rfl) (by rfl), zW_in 1157 (by rfl) (by rfl), rfl, rfl, rfl, by decide +kernel⟩⟩, ?_⟩
  refine List.forall_mem_cons.mpr ⟨⟨by decide, zW_in 1184 (by rfl) (by rfl), ⟨zW_in 1163 (by rfl) (by rfl), zW_in 1164 (by rfl) (by rfl), rfl, rfl, rfl, by decide +kernel⟩⟩, ?_⟩
  refine List.forall_mem_cons.mpr ⟨⟨by decide, zW_in 1185 (by rfl) (by rfl), ⟨zW_in 1172 (by rfl) (by rfl), zW_in 1173 (by rfl) (by rfl), rfl, rfl, rfl, by decide +kernel⟩⟩, ?_⟩
  refine List.forall_mem_cons.mpr ⟨⟨by decide, zW_in 1194 (by rfl) (by rfl), ⟨zW_in 1196 (by rfl) (by rfl), zW_in 30 (by rfl) (by rfl), rfl, rfl, rfl, by decide +kernel⟩⟩, ?_⟩
  exact fun x h => absurd h List.not_mem_nil
def zMTab3 : List (Nat × Nat × Nat × Nat × Nat) := [(16, 233, 101, 0, 1), (16, 237, 89, 6, 3), (16, 240, 182, 0, 1), (16, 245, 85, 0, 2), (16, 249, 23, 3, 2), (16, 255, 10, 3, 3), (16, 259, 11, 3, 2), (16, 264, 14, 3, 4), (16, 270, 32, 5, 2), (16, 274, 98, 6, 1), (16, 277, 99, 6, 1), (16, 280, 83, 6, 2), (16, 285, 40, 5, 2), (16, 289, 80, 6, 2), (16, 324, 15, 3, 3), (16, 327, 92, 6, 1), (16, 330, 93, 6, 3), (16, 334, 94, 6, 4), (16, 338, 97, 6, 2), (16, 341, 96, 6, 2), (16, 344, 95, 6, 4), (16, 348, 29, 5, 1), (16, 351, 3, 2, 1), (16, 354, 1, 1, 2), (16, 368, 4, 2, 3), (16, 371, 30, 5, 4), (16, 373, 12, 3, 2), (16, 382, 31, 5, 2), (16, 383, 5, 2, 2), (17, 88, 105, 0, 3), (17, 98, 106, 0, 4), (17, 102, 107, 7, 7), (17, 106, 110, 7, 2), (17, 112, 113, 7, 3), (17, 116, 114, 7, 2), (17, 134, 122, 7, 2), (17, 137, 126, 7, 4), (17, 141, 123, 7, 4), (17, 145, 182, 0, 1), (17, 154, 124, 0, 2), (17, 158, 125, 7, 3), (17, 161, 127, 7, 3), (17, 164, 128, 7, 3), (17, 168, 104, 7, 2), (17, 174, 134, 7, 1), (17, 178, 132, 7, 5), (17, 182, 135, 7, 3), (17, 185, 133, 7, 2), (17, 189, 136, 7, 2), (17, 192, 137, 7, 3), (17, 195, 138, 7, 1), (17, 198, 140, 7, 2), (17, 201, 144, 7, 2), (17, 204, 148, 7, 2), (17, 207, 149, 7, 2), (17, 216, 152, 7, 4), (17, 220, 155, 7, 1), (17, 224, 184, 0, 1)]
set_option maxRecDepth 20000 in
theorem zMTab3_ok : ∀ x ∈ zMTab3, zMOK (zOwn.getD x.1 "") x.2.1 x.2.2.1 x.2.2.2.1 x.2.2.2.2 := by
  unfold zMTab3
  refine List.forall_mem_cons.mpr ⟨⟨by decide, zW_in 1206 (by rfl) (by rfl), ⟨zW_in 1207 (by rfl) (by rfl), by decide +kernel⟩⟩, ?_⟩
  refine List.forall_mem_cons.mpr ⟨⟨by decide, zW_in 1217 (by rfl) (by rfl), ⟨zW_in 1219 (by rfl) (by rfl), zW_in 31 (by rfl) (by rfl), rfl, rfl, rfl, by decide +kernel⟩⟩, ?_⟩
  refine List.forall_mem_cons.mpr ⟨⟨by decide, zW_in 1226 (by rfl) (by rfl), ⟨zW_in 1227 (by rfl) (by rfl), by decide +kernel⟩⟩, ?_⟩
  refine List.forall_mem_cons.mpr ⟨⟨by decide, zW_in 1221 (by rfl) (by rfl), ⟨zW_in 1222 (by rfl) (by rfl), by decide +kernel⟩⟩, ?_⟩
  refine List.forall_mem_cons.mpr ⟨⟨by decide, zW_in 1239 (by rfl) (by rfl), ⟨zW_in 1240 (by rfl) (by rfl), zW_in 1241 (by rfl) (by rfl), rfl, rfl, rfl, by decide +kernel⟩⟩, ?_⟩
  refine List.forall_mem_cons.mpr ⟨⟨by decide, zW_in 335 (by rfl) (by rfl), ⟨zW_in 324 (by rfl) (by rfl), zW_in 325 (by rfl) (by rfl), rfl, rfl, rfl, by decide +kernel⟩⟩, ?_⟩
  refine List.forall_mem_cons.mpr ⟨⟨by decide, zW_in 337 (by rfl) (by rfl), ⟨zW_in 338 (by rfl) (by rfl), zW_in 339 (by rfl) (by rfl), rfl, rfl, rfl, by decide +kernel⟩⟩, ?_⟩
  refine List.forall_mem_cons.mpr ⟨⟨by decide, zW_in 1263 (by rfl) (by rfl), ⟨zW_in 320 (by rfl) (by rfl), zW_in 321 (by rfl) (by rfl), rfl, rfl, rfl, by decide +kernel⟩⟩, ?_⟩
  refine List.forall_mem_cons.mpr ⟨⟨by decide, zW_in 1272 (by rfl) (by rfl), ⟨zW_in 1273 (by rfl) (by rfl), zW_in 1274 (by rfl) (by rfl), rfl, rfl, rfl, by decide +kernel⟩⟩, ?_⟩
  refine List.forall_mem_cons.mpr ⟨⟨by decide, zW_in 1278 (by rfl) (by rfl), ⟨zW_in 1280 (by rfl) (by rfl), zW_in 33 (by rfl) (by rfl), rfl, rfl, rfl, by decide +kernel⟩⟩, ?_⟩
  refine List.forall_mem_cons.mpr ⟨⟨by decide, zW_in 1282 (by rfl) (by rfl), ⟨zW_in 1284 (by rfl) (by rfl), zW_in 34 (by rfl) (by rfl), rfl, rfl, rfl, by decide +kernel⟩⟩, ?_⟩
  refine List.forall_mem_cons.mpr ⟨⟨by decide, zW_in 1293 (by rfl) (by rfl), ⟨zW_in 1295 (by rfl) (by rfl), zW_in 35 (by rfl) (by rfl), rfl, rfl, rfl, by decide +kernel⟩⟩, ?_⟩
  refine List.forall_mem_cons.mpr ⟨⟨by decide, zW_in 1313 (by rfl) (by rfl), ⟨zW_in 1314 (by rfl) (by rfl), zW_in 1315 (by rfl) (by rfl), rfl, rfl, rfl, by decide +kernel⟩⟩, ?_⟩
  refine List.forall_mem_cons.mpr ⟨⟨by decide, zW_in 628 (by rfl) (by rfl), ⟨zW_in 630 (by rfl) (by rfl), zW_in 21 (by rfl) (by rfl), rfl, rfl, rfl, by decide +kernel⟩⟩, ?_⟩
  refine List.forall_mem_cons.mpr ⟨⟨by decide, zW_in 284 (by rfl) (by rfl), ⟨zW_in 285 (by rfl) (by rfl), zW_in 286 (by rfl) (by rfl), rfl, rfl, rfl, by decide +kernel⟩⟩, ?_⟩
  refine List.forall_mem_cons.mpr ⟨⟨by decide, zW_in 230 (by rfl) (by rfl), ⟨zW_in 232 (by rfl) (by rfl), zW_in 1 (by rfl) (by rfl), rfl, rfl, rfl, by decide +kernel⟩⟩, ?_⟩
  refine List.forall_mem_cons.mpr ⟨⟨by decide, zW_in 257 (by rfl) (by rfl), ⟨zW_in 259 (by rfl) (by rfl), zW_in 2 (by rfl) (by rfl), rfl, rfl, rfl, by decide +kernel⟩⟩, ?_⟩
  refine List.forall_mem_cons.mpr ⟨⟨by decide, zW_in 265 (by rfl) (by rfl), ⟨zW_in 267 (by rfl) (by rfl), zW_in 3 (by rfl) (by rfl), rfl, rfl, rfl, by decide +kernel⟩⟩, ?_⟩
  refine List.forall_mem_cons.mpr ⟨⟨by decide, zW_in 341 (by rfl) (by rfl), ⟨zW_in 343 (by rfl) (by rfl), zW_in 13 (by rfl) (by rfl), rfl, rfl, rfl, by decide +kernel⟩⟩, ?_⟩
  refine List.forall_mem_cons.mpr ⟨⟨by decide, zW_in 269 (by rfl) (by rfl), ⟨zW_in 271 (by rfl) (by rfl), zW_in 4 (by rfl) (by rfl), rfl, rfl, rfl, by decide +kernel⟩⟩, ?_⟩
  refine List.forall_mem_cons.mpr ⟨⟨by decide, zW_in 280 (by rfl) (by rfl), ⟨zW_in 282 (by rfl) (by rfl), zW_in 5 (by rfl) (by rfl), rfl, rfl, rfl, by decide +kernel⟩⟩, ?_⟩
  refine List.forall_mem_cons.mpr ⟨⟨by decide, zW_in 234 (by rfl) (by rfl), ⟨zW_in 235 (by rfl) (by rfl), zW_in 236 (by rfl) (by rfl), rfl, rfl, rfl, by decide +kernel⟩⟩, ?_⟩
  refine List.forall_mem_cons.mpr ⟨⟨by decide, zW_in 253 (by rfl) (by rfl), ⟨zW_in 254 (by rfl) (by rfl), zW_in 255 (by rfl) (by rfl), rfl, rfl, rfl, by decide +kernel⟩⟩, ?_⟩
  refine List.forall_mem_cons.mpr ⟨⟨by decide, zW_in 261 (by rfl) (by rfl), ⟨zW_in 262 (by rfl) (by rfl), zW_in 263 (by rfl) (by rfl), rfl, rfl, rfl, by decide +kernel⟩⟩, ?_⟩
  refine List.forall_mem_cons.mpr ⟨⟨by decide, zW_in 362 (by rfl) (by rfl), ⟨zW_in 363 (by rfl) (by rfl), zW_in 364 (by rfl) (by rfl), rfl, rfl, rfl, by decide +kernel⟩⟩, ?_⟩
  refine List.forall_mem_cons.mpr ⟨⟨by decide, zW_in 331 (by rfl) (by rfl), ⟨zW_in 332 (by rfl) (by rfl), zW_in 333 (by rfl) (by rfl), rfl, rfl, rfl, by decide +kernel⟩⟩, ?_⟩
  refine List.forall_mem_cons.mpr ⟨⟨by decide, zW_in 336 (by rfl) (by rfl), ⟨zW_in 296 (by rfl) (by rfl), zW_in 297 (by rfl) (by rfl), rfl, rfl, rfl, by decide +kernel⟩⟩, ?_⟩
  refine List.forall_mem_cons.mpr ⟨⟨by decide, zW_in 345 (by rfl) (by rfl), ⟨zW_in 346 (by rfl) (by rfl), zW_in 347 (by rfl) (by rfl), rfl, rfl, rfl, by decide +kernel⟩⟩, ?_⟩
  refine List.forall_mem_cons.mpr ⟨⟨by decide, zW_in 357 (by rfl) (by rfl), ⟨zW_in 358 (by rfl) (by rfl), zW_in 359 (by rfl) (by rfl), rfl, rfl, rfl, by decide +kernel⟩⟩, ?_⟩
  refine List.forall_mem_cons.mpr ⟨⟨by decide, zW_in 1448 (by rfl) (by rfl), ⟨zW_in 1449 (by rfl) (by rfl), by decide +kernel⟩⟩, ?_⟩
  refine List.forall_mem_cons.mpr ⟨⟨by decide, zW_in 1445 (by rfl) (by rfl), ⟨zW_in 1446 (by rfl) (by rfl), by decide +kernel⟩⟩, ?_⟩
  refine List.forall_mem_cons.mpr ⟨⟨by decide, zW_in 1451 (by rfl) (by rfl), ⟨zW_in 1453 (by rfl) (by rfl), zW_in 36 (by rfl) (by rfl), rfl, rfl, rfl, by decide +kernel⟩⟩, ?_⟩
  refine List.forall_mem_cons.mpr ⟨⟨by decide, zW_in 1463 (by rfl) (by rfl), ⟨zW_in 1465 (by rfl) (by rfl), zW_in 37 (by rfl) (by rfl), rfl, rfl, rfl, by decide +kernel⟩⟩, ?_⟩
  refine List.forall_mem_cons.mpr ⟨⟨by decide, zW_in 1475 (by rfl) (by rfl), ⟨zW_in 1477 (by rfl) (by rfl), zW_in 38 (by rfl) (by rfl), rfl, rfl, rfl, by decide +kernel⟩⟩, ?_⟩
  refine List.forall_mem_cons.mpr ⟨⟨by decide, zW_in 1483 (by rfl) (by rfl), ⟨zW_in 1485 (by rfl) (by rfl), zW_in 39 (by rfl) (by rfl), rfl, rfl, rfl, by decide +kernel⟩⟩, ?_⟩
  refine List.forall_mem_cons.mpr ⟨⟨by decide, zW_in 1520 (by rfl) (by rfl), ⟨zW_in 1522 (by rfl) (by rfl), zW_in 42 (by rfl) (by rfl), rfl, rfl, rfl, by decide +kernel⟩⟩, ?_⟩
  refine List.forall_mem_cons.mpr ⟨⟨by decide, zW_in 1524 (by rfl) (by rfl), ⟨zW_in 1526 (by rfl) (by rfl), zW_in 43 (by rfl) (by rfl), rfl, rfl, rfl, by decide +kernel⟩⟩, ?_⟩
  refine List.forall_mem_cons.mpr ⟨⟨by decide, zW_in 1528 (by rfl) (by rfl), ⟨zW_in 1530 (by rfl) (by rfl), zW_in 44 (by rfl) (by rfl), rfl, rfl, rfl, by decide +kernel⟩⟩, ?_⟩
  refine List.forall_mem_cons.mpr ⟨⟨by decide, zW_in 1542 (by rfl) (by rfl), ⟨zW_in 1227 (by rfl) (by rfl), by decide +kernel⟩⟩, ?_⟩
  refine List.forall_mem_cons.mpr ⟨⟨by decide, zW_in 1543 (by rfl) (by rfl), ⟨zW_in 1544 (by rfl) (by rfl), by decide +kernel⟩⟩, ?_⟩
  refine List.forall_mem_cons.mpr ⟨⟨by decide, zW_in 1516 (by rfl) (by rfl), ⟨zW_in 1518 (by rfl) (by rfl), zW_in 41 (by rfl) (by rfl), rfl, rfl, rfl, by decide +kernel⟩⟩, ?_⟩
  refine List.forall_mem_cons.mpr ⟨⟨by decide, zW_in 1512 (by rfl) (by rfl), ⟨zW_in 1514 (by rfl) (by rfl), zW_in 40 (by rfl) (by rfl), rfl, rfl, rfl, by decide +kernel⟩⟩, ?_⟩
  refine List.forall_mem_cons.mpr ⟨⟨by decide, zW_in 1550 (by rfl) (by rfl), ⟨zW_in 1509 (by rfl) (by rfl), zW_in 1510 (by rfl) (by rfl), rfl, rfl, rfl, by decide +kernel⟩⟩, ?_⟩
  refine List.forall_mem_cons.mpr ⟨⟨by decide, zW_in 1555 (by rfl) (by rfl), ⟨zW_in 1557 (by rfl) (by rfl), zW_in 45 (by rfl) (by rfl), rfl, rfl, rfl, by decide +kernel⟩⟩, ?_⟩
  refine List.forall_mem_cons.mpr ⟨⟨by decide, zW_in 1583 (by rfl) (by rfl), ⟨zW_in 1585 (by rfl) (by rfl), zW_in 50 (by rfl) (by rfl), rfl, rfl, rfl, by decide +kernel⟩⟩, ?_⟩
  refine List.forall_mem_cons.mpr ⟨⟨by decide, zW_in 1587 (by rfl) (by rfl), ⟨zW_in 1589 (by rfl) (by rfl), zW_in 51 (by rfl) (by rfl), rfl, rfl, rfl, by decide +kernel⟩⟩, ?_⟩
  refine List.forall_mem_cons.mpr ⟨⟨by decide, zW_in 1579 (by rfl) (by rfl), ⟨zW_in 1581 (by rfl) (by rfl), zW_in 49 (by rfl) (by rfl), rfl, rfl, rfl, by decide +kernel⟩⟩, ?_⟩
  refine List.forall_mem_cons.mpr ⟨⟨by decide, zW_in 1591 (by rfl) (by rfl), ⟨zW_in 1593 (by rfl) (by rfl), zW_in 52 (by rfl) (by rfl), rfl, rfl, rfl, by decide +kernel⟩⟩, ?_⟩
  refine List.forall_mem_cons.mpr ⟨⟨by decide, zW_in 1571 (by rfl) (by rfl), ⟨zW_in 1573 (by rfl) (by rfl), zW_in 47 (by rfl) (by rfl), rfl, rfl, rfl, by decide +kernel⟩⟩, ?_⟩
  refine List.forall_mem_cons.mpr ⟨⟨by decide, zW_in 1575 (by rfl) (by rfl), ⟨zW_in 1577 (by rfl) (by rfl), zW_in 48 (by rfl) (by rfl), rfl, rfl, rfl, by decide +kernel⟩⟩, ?_⟩
  refine List.forall_mem_cons.mpr ⟨⟨by decide, zW_in 1567 (by rfl) (by rfl), ⟨zW_in 1569 (by rfl) (by rfl), zW_in 46 (by rfl) (by rfl), rfl, rfl, rfl, by decide +kernel⟩⟩, ?_⟩
  refine List.forall_mem_cons.mpr ⟨⟨by decide, zW_in 1599 (by rfl) (by rfl), ⟨zW_in 1601 (by rfl) (by rfl), zW_in 53 (by rfl) (by rfl), rfl, rfl, rfl, by decide +kernel⟩⟩, ?_⟩
  refine List.forall_mem_cons.mpr ⟨⟨by decide, zW_in 1615 (by rfl) (by rfl), ⟨zW_in 1617 (by rfl) (by rfl), zW_in 54 (by rfl) (by rfl), rfl, rfl, rfl, by decide +kernel⟩⟩, ?_⟩
  refine List.forall_mem_cons.mpr ⟨⟨by decide, zW_in 1631 (by rfl) (by rfl), ⟨zW_in 1633 (by rfl) (by rfl), zW_in 55 (by rfl) (by rfl), rfl, rfl, rfl, by decide +kernel⟩⟩, ?_⟩
  refine List.forall_mem_cons.mpr ⟨⟨by decide, zW_in 1639 (by rfl) (by rfl), ⟨zW_in 1628 (by rfl) (by rfl), zW_in 1629 (by rfl) (by rfl), rfl, rfl, rfl, by decide +kernel⟩⟩, ?_⟩
  refine List.forall_mem_cons.mpr ⟨⟨by decide, zW_in 1648 (by rfl) (by rfl), ⟨zW_in 1650 (by rfl) (by rfl), zW_in 56 (by rfl) (by rfl), rfl, rfl, rfl, by decide +kernel⟩⟩, ?_⟩
  refine List.forall_mem_cons.mpr ⟨⟨by decide, zW_in 1666 (by rfl) (by rfl), ⟨zW_in 1659 (by rfl) (by rfl), zW_in 1660 (by rfl) (by rfl), rfl, rfl, rfl, by decide +kernel⟩⟩, ?_⟩
  refine List.forall_mem_cons.mpr ⟨⟨by decide, zW_in 1667 (by rfl) (by rfl), ⟨zW_in 1668 (by rfl) (by rfl), by decide +kernel⟩⟩, ?_⟩
  exact fun x h => absurd h List.not_mem_nil
theorem zMTab_eq : zMTab = zMTab0 ++ (zMTab1 ++ (zMTab2 ++ (zMTab3))) := by decide +kernel
theorem zMTab_ok : ∀ x ∈ zMTab, zMOK (zOwn.getD x.1 "") x.2.1 x.2.2.1 x.2.2.2.1 x.2.2.2.2 := by
  intro x hx
  rw [zMTab_eq] at hx
  simp only [List.mem_append] at hx
  rcases hx with hx | hx | hx | hx
  · exact zMTab0_ok x hx
  · exact zMTab1_ok x hx
  · exact zMTab2_ok x hx
  · exact zMTab3_ok x hx

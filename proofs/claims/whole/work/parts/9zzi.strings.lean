/-! what the statement gives of the String constants: places in its own list, by program (wip/whole/gen/strs.py) -/
abbrev st_F : List Cond := flatC (Jvm.Cond.and given_1 narrow_1)
def st_tm (j : Nat) : Term := .string (ms_tx.getD j ("", 0, "")).1 (ms_tx.getD j ("", 0, "")).2.1
def st_va (j : Nat) : Term := .field (st_tm j) "java/lang/String" "value" "[B"
theorem st_in {α : Type} {l : List α} {F : List Cond} {f : α → Cond} {ps : List Nat} (h : l.map f = ps.filterMap (fun i => F[i]?)) : ∀ x ∈ l, f x ∈ F := fun x hx => by
  have h1 : f x ∈ l.map f := List.mem_map.mpr ⟨x, hx, rfl⟩
  rw [h] at h1
  obtain ⟨i, -, hi⟩ := List.mem_filterMap.mp h1
  exact List.mem_of_getElem? hi
theorem st_e1 : (List.range 50).map (fun j => Cond.exactly (st_tm j) "java/lang/String") = ([39, 57, 65, 73, 81, 89, 98, 107, 116, 124, 133, 142, 153, 162, 171, 180, 199, 217, 234, 249, 257, 266, 273, 282, 290, 298, 307, 316, 327, 334, 340, 350, 360, 370, 380, 390, 400, 409, 418, 428, 438, 450, 460, 470, 482, 492, 502, 511, 519, 527] : List Nat).filterMap (fun i => st_F[i]?) := by decide +kernel
theorem st_e2 : (List.range 50).map (fun j => Cond.eq (.field (st_tm j) "java/lang/String" "coder" "B") (.int 0)) = ([40, 58, 66, 74, 82, 90, 99, 108, 117, 125, 134, 143, 154, 163, 172, 181, 200, 218, 235, 250, 258, 267, 274, 283, 291, 299, 308, 317, 328, 335, 341, 351, 361, 371, 381, 391, 401, 410, 419, 429, 439, 451, 461, 471, 483, 493, 503, 512, 520, 528] : List Nat).filterMap (fun i => st_F[i]?) := by decide +kernel
theorem st_e3 : (List.range 50).map (fun j => Cond.arrayOf (st_va j) .byte) = ([41, 59, 67, 75, 83, 91, 100, 109, 118, 126, 135, 144, 155, 164, 173, 182, 201, 219, 236, 251, 259, 268, 275, 284, 292, 300, 309, 318, 329, 336, 342, 352, 362, 372, 382, 392, 402, 411, 420, 430, 440, 452, 462, 472, 484, 494, 504, 513, 521, 529] : List Nat).filterMap (fun i => st_F[i]?) := by decide +kernel
theorem st_e4 : (List.range 50).map (fun j => Cond.eq (.length (st_va j)) (.int (Int32.ofNat (ms_txt (600 + j)).length))) = ([42, 60, 68, 76, 84, 92, 101, 110, 119, 127, 136, 145, 156, 165, 174, 183, 202, 220, 237, 252, 260, 269, 276, 285, 293, 301, 310, 319, 330, 337, 343, 353, 363, 373, 383, 393, 403, 412, 421, 431, 441, 453, 463, 473, 485, 495, 505, 514, 522, 530] : List Nat).filterMap (fun i => st_F[i]?) := by decide +kernel
def st_ps : List (Nat × Nat) := (List.range 50).flatMap fun j => (List.range (ms_txt (600 + j)).length).map fun i => (j, i)
theorem st_e5 : st_ps.map (fun q => Cond.eq (.elem (st_va q.1) (.int (Int32.ofNat q.2))) (.int ((ms_txt (600 + q.1)).getD q.2 0))) = ([43, 44, 45, 46, 47, 48, 49, 50, 51, 52, 53, 54, 55, 56, 61, 62, 63, 64, 69, 70, 71, 72, 77, 78, 79, 80, 85, 86, 87, 88, 93, 94, 95, 96, 102, 103, 104, 105, 111, 112, 113, 114, 120, 121, 122, 123, 128, 129, 130, 131, 132, 137, 138, 139, 140, 141, 146, 147, 148, 149, 150, 151, 152, 157, 158, 159, 160, 161, 166, 167, 168, 169, 175, 176, 177, 178, 184, 185, 186, 187, 188, 189, 190, 191, 192, 193, 194, 195, 196, 197, 198, 203, 204, 205, 206, 207, 208, 209, 210, 211, 212, 213, 214, 215, 216, 221, 222, 223, 224, 225, 226, 227, 228, 229, 230, 231, 232, 233, 238, 239, 240, 241, 242, 243, 244, 245, 246, 247, 248, 253, 254, 255, 256, 261, 262, 263, 264, 265, 270, 271, 272, 277, 278, 279, 280, 281, 286, 287, 288, 289, 294, 295, 296, 297, 302, 303, 304, 305, 306, 311, 312, 313, 314, 315, 320, 321, 322, 323, 324, 325, 326, 331, 332, 333, 338, 339, 344, 345, 346, 347, 354, 355, 356, 357, 364, 365, 366, 367, 374, 375, 376, 377, 384, 385, 386, 387, 394, 395, 396, 397, 398, 404, 405, 406, 407, 413, 414, 415, 416, 422, 423, 424, 425, 426, 432, 433, 434, 435, 436, 442, 443, 444, 445, 446, 447, 448, 454, 455, 456, 457, 458, 464, 465, 466, 467, 468, 474, 475, 476, 477, 478, 479, 480, 486, 487, 488, 489, 490, 496, 497, 498, 499, 500, 506, 507, 508, 509, 515, 516, 517, 523, 524, 525, 531, 532] : List Nat).filterMap (fun i => st_F[i]?) := by decide +kernel
theorem st_e6 : (List.range 50).map (fun j => Cond.stringRef (ms_tx.getD j ("", 0, "")).1 (ms_tx.getD j ("", 0, "")).2.1 (ms_tx.getD j ("", 0, "")).2.2) = ([727, 792, 845, 846, 869, 871, 872, 873, 874, 919, 920, 921, 956, 957, 964, 999, 1045, 1349, 1407, 1529, 1531, 1546, 1561, 1562, 1563, 1564, 1565, 1566, 1582, 1583, 1633, 1634, 1635, 1636, 1637, 1638, 1639, 1640, 1641, 1642, 1643, 2267, 2268, 2269, 2286, 2307, 2308, 2321, 2334, 2335] : List Nat).filterMap (fun i => lw_tbl[i]?) := by decide +kernel
theorem st_s1 : Cond.isRef (.static "java/lang/Throwable" "UNASSIGNED_STACK" "[Ljava/lang/StackTraceElement;") ∈ st_F := List.mem_of_getElem? (i := 4) (by decide +kernel)
theorem st_s2 : Cond.isRef (.static "java/lang/Throwable" "SUPPRESSED_SENTINEL" "Ljava/util/List;") ∈ st_F := List.mem_of_getElem? (i := 5) (by decide +kernel)
theorem st_s3 : Cond.eq (.static "java/lang/String" "COMPACT_STRINGS" "Z") (.int 1) ∈ st_F := List.mem_of_getElem? (i := 6) (by decide +kernel)
theorem st_s4 : Cond.isRef (.static "jdk/internal/util/Preconditions" "SIOOBE_FORMATTER" "Ljava/util/function/BiFunction;") ∈ st_F := List.mem_of_getElem? (i := 7) (by decide +kernel)
theorem st_s5 : Cond.not (.castable "java/lang/IllegalArgumentException" "java/util/NoSuchElementException") ∈ st_F := List.mem_of_getElem? (i := 38) (by decide +kernel)
theorem st_l1 : Cond.laysStatic "java/lang/Throwable" "UNASSIGNED_STACK" "[Ljava/lang/StackTraceElement;" ∈ lw_tbl := List.mem_of_getElem? (i := 714) (by decide +kernel)
theorem st_l2 : Cond.laysStatic "java/lang/Throwable" "SUPPRESSED_SENTINEL" "Ljava/util/List;" ∈ lw_tbl := List.mem_of_getElem? (i := 716) (by decide +kernel)
theorem st_l3 : Cond.laysStatic "java/lang/String" "COMPACT_STRINGS" "Z" ∈ lw_tbl := List.mem_of_getElem? (i := 806) (by decide +kernel)
theorem st_l4 : Cond.laysStatic "jdk/internal/util/Preconditions" "SIOOBE_FORMATTER" "Ljava/util/function/BiFunction;" ∈ lw_tbl := List.mem_of_getElem? (i := 822) (by decide +kernel)
theorem st_i1 : Cond.initialized "java/lang/Throwable" ∈ lw_tbl := List.mem_of_getElem? (i := 153) (by decide +kernel)
theorem st_i3 : Cond.initialized "java/lang/String" ∈ lw_tbl := List.mem_of_getElem? (i := 157) (by decide +kernel)
theorem st_i4 : Cond.initialized "jdk/internal/util/Preconditions" ∈ lw_tbl := List.mem_of_getElem? (i := 159) (by decide +kernel)
theorem st_a0 : Cond.arrayClass .int ∈ lw_tbl := List.mem_of_getElem? (i := 250) (by decide +kernel)
theorem st_a1 : Cond.arrayClass .byte ∈ lw_tbl := List.mem_of_getElem? (i := 213) (by decide +kernel)
theorem st_a2 : Cond.arrayClass .long ∈ lw_tbl := List.mem_of_getElem? (i := 1768) (by decide +kernel)
theorem st_a3 : Cond.arrayClass .double ∈ lw_tbl := List.mem_of_getElem? (i := 2348) (by decide +kernel)
theorem st_a4 : Cond.arrayOver (.object "MarkStacks$Sign") ∈ lw_tbl := List.mem_of_getElem? (i := 221) (by decide +kernel)
theorem st_a5 : Cond.arrayOver (.object "MarkStacks$Row") ∈ lw_tbl := List.mem_of_getElem? (i := 333) (by decide +kernel)
theorem st_a6 : Cond.arrayOver (.object "MarkStacks$Memory") ∈ lw_tbl := List.mem_of_getElem? (i := 416) (by decide +kernel)
theorem st_a7 : Cond.arrayOver (.object "java/lang/String") ∈ lw_tbl := List.mem_of_getElem? (i := 1632) (by decide +kernel)

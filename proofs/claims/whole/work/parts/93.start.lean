abbrev fl_S : List Cond := flatC (Jvm.Cond.and given_1 narrow_1)
theorem fl_in {big ws : List Cond} (ix : List Nat) (h : ws.map some = ix.map (fun i => big[i]?)) : ∀ w ∈ ws, w ∈ big := by
  intro w hw
  have h1 : some w ∈ ws.map some := List.mem_map.mpr ⟨w, hw, rfl⟩
  rw [h] at h1
  obtain ⟨i, -, hi⟩ := List.mem_map.mp h1
  exact List.mem_of_getElem? hi
def sx_v (q : String × Nat × String) : Term := .field (.string q.1 q.2.1) "java/lang/String" "value" "[B"
def sx_ws (q : String × Nat × String) : List Cond := [.exactly (.string q.1 q.2.1) "java/lang/String", .eq (.field (.string q.1 q.2.1) "java/lang/String" "coder" "B") (.int 0), .arrayOf (sx_v q) .byte, .eq (.length (sx_v q)) (.int (Int32.ofNat q.2.2.toList.length))] ++ (List.range q.2.2.toList.length).map (fun j => .eq (.elem (sx_v q) (.int (Int32.ofNat j))) (.int (iI (sx_b q.2.2 j))))
theorem sx_i0 : ∀ w ∈ sx_ws (R_I, 29, "state "), w ∈ fl_S := fl_in [44, 45, 46, 47, 48, 49, 50, 51, 52, 53] (by decide +kernel)
theorem sx_r0 : Cond.stringRef R_I 29 "state " ∈ lw_tbl := List.mem_append_right _ (List.mem_of_getElem? (i := 247) (by decide +kernel))
theorem sx_i1 : ∀ w ∈ sx_ws (R_I, 80, ", "), w ∈ fl_S := fl_in [54, 55, 56, 57, 58, 59] (by decide +kernel)
theorem sx_r1 : Cond.stringRef R_I 80 ", " ∈ lw_tbl := List.mem_append_right _ (List.mem_of_getElem? (i := 312) (by decide +kernel))
theorem sx_i2 : ∀ w ∈ sx_ws (R_I, 41, "ask "), w ∈ fl_S := fl_in [60, 61, 62, 63, 64, 65, 66, 67] (by decide +kernel)
theorem sx_r2 : Cond.stringRef R_I 41 "ask " ∈ lw_tbl := List.mem_append_right _ (List.mem_of_getElem? (i := 323) (by decide +kernel))
theorem sx_i3 : ∀ w ∈ sx_ws (R_I, 46, "message "), w ∈ fl_S := fl_in [68, 69, 70, 71, 72, 73, 74, 75, 76, 77, 78, 79] (by decide +kernel)
theorem sx_r3 : Cond.stringRef R_I 46 "message " ∈ lw_tbl := List.mem_append_right _ (List.mem_of_getElem? (i := 328) (by decide +kernel))
theorem sx_i4 : ∀ w ∈ sx_ws (R_I, 56, "first "), w ∈ fl_S := fl_in [80, 81, 82, 83, 84, 85, 86, 87, 88, 89] (by decide +kernel)
theorem sx_r4 : Cond.stringRef R_I 56 "first " ∈ lw_tbl := List.mem_append_right _ (List.mem_of_getElem? (i := 333) (by decide +kernel))
theorem sx_i5 : ∀ w ∈ sx_ws (R_I, 89, "never "), w ∈ fl_S := fl_in [90, 91, 92, 93, 94, 95, 96, 97, 98, 99] (by decide +kernel)
theorem sx_r5 : Cond.stringRef R_I 89 "never " ∈ lw_tbl := List.mem_append_right _ (List.mem_of_getElem? (i := 360) (by decide +kernel))
theorem sx_i6 : ∀ w ∈ sx_ws (R_I, 91, "on "), w ∈ fl_S := fl_in [100, 101, 102, 103, 104, 105, 106] (by decide +kernel)
theorem sx_r6 : Cond.stringRef R_I 91 "on " ∈ lw_tbl := List.mem_append_right _ (List.mem_of_getElem? (i := 361) (by decide +kernel))
theorem sx_i7 : ∀ w ∈ sx_ws (R_I, 105, " "), w ∈ fl_S := fl_in [107, 108, 109, 110, 111] (by decide +kernel)
theorem sx_r7 : Cond.stringRef R_I 105 " " ∈ lw_tbl := List.mem_append_right _ (List.mem_of_getElem? (i := 371) (by decide +kernel))
theorem sx_i8 : ∀ w ∈ sx_ws (R_I, 110, "take"), w ∈ fl_S := fl_in [112, 113, 114, 115, 116, 117, 118, 119] (by decide +kernel)
theorem sx_r8 : Cond.stringRef R_I 110 "take" ∈ lw_tbl := List.mem_append_right _ (List.mem_of_getElem? (i := 376) (by decide +kernel))
theorem sx_i9 : ∀ w ∈ sx_ws (R_I, 112, "keep"), w ∈ fl_S := fl_in [120, 121, 122, 123, 124, 125, 126, 127] (by decide +kernel)
theorem sx_r9 : Cond.stringRef R_I 112 "keep" ∈ lw_tbl := List.mem_append_right _ (List.mem_of_getElem? (i := 377) (by decide +kernel))
theorem sx_i10 : ∀ w ∈ sx_ws (R_I, 114, "send "), w ∈ fl_S := fl_in [128, 129, 130, 131, 132, 133, 134, 135, 136] (by decide +kernel)
theorem sx_r10 : Cond.stringRef R_I 114 "send " ∈ lw_tbl := List.mem_append_right _ (List.mem_of_getElem? (i := 378) (by decide +kernel))
theorem sx_i11 : ∀ w ∈ sx_ws (R_I, 100, " > "), w ∈ fl_S := fl_in [137, 138, 139, 140, 141, 142, 143] (by decide +kernel)
theorem sx_r11 : Cond.stringRef R_I 100 " > " ∈ lw_tbl := List.mem_append_right _ (List.mem_of_getElem? (i := 379) (by decide +kernel))
theorem sx_i12 : ∀ w ∈ sx_ws (R_X, 79, "the text would be too long"), w ∈ fl_S := fl_in [144, 145, 146, 147, 148, 149, 150, 151, 152, 153, 154, 155, 156, 157, 158, 159, 160, 161, 162, 163, 164, 165, 166, 167, 168, 169, 170, 171, 172, 173] (by decide +kernel)
theorem sx_r12 : Cond.stringRef R_X 79 "the text would be too long" ∈ lw_tbl := List.mem_append_right _ (List.mem_of_getElem? (i := 506) (by decide +kernel))
theorem sx_i13 : ∀ w ∈ sx_ws (R_X, 90, "not 0 to 16 bytes"), w ∈ fl_S := fl_in [174, 175, 176, 177, 178, 179, 180, 181, 182, 183, 184, 185, 186, 187, 188, 189, 190, 191, 192, 193, 194] (by decide +kernel)
theorem sx_r13 : Cond.stringRef R_X 90 "not 0 to 16 bytes" ∈ lw_tbl := List.mem_append_right _ (List.mem_of_getElem? (i := 553) (by decide +kernel))
theorem sx_i14 : ∀ w ∈ sx_ws (R_X, 93, "less than sixteen bytes"), w ∈ fl_S := fl_in [195, 196, 197, 198, 199, 200, 201, 202, 203, 204, 205, 206, 207, 208, 209, 210, 211, 212, 213, 214, 215, 216, 217, 218, 219, 220, 221] (by decide +kernel)
theorem sx_r14 : Cond.stringRef R_X 93 "less than sixteen bytes" ∈ lw_tbl := List.mem_append_right _ (List.mem_of_getElem? (i := 560) (by decide +kernel))
theorem sx_i15 : ∀ w ∈ sx_ws (R_L, 57, "state"), w ∈ fl_S := fl_in [222, 223, 224, 225, 226, 227, 228, 229, 230] (by decide +kernel)
theorem sx_r15 : Cond.stringRef R_L 57 "state" ∈ lw_tbl := List.mem_append_right _ (List.mem_of_getElem? (i := 604) (by decide +kernel))
theorem sx_i16 : ∀ w ∈ sx_ws (R_L, 63, "ask"), w ∈ fl_S := fl_in [231, 232, 233, 234, 235, 236, 237] (by decide +kernel)
theorem sx_r16 : Cond.stringRef R_L 63 "ask" ∈ lw_tbl := List.mem_append_right _ (List.mem_of_getElem? (i := 611) (by decide +kernel))
theorem sx_i17 : ∀ w ∈ sx_ws (R_L, 65, "message"), w ∈ fl_S := fl_in [238, 239, 240, 241, 242, 243, 244, 245, 246, 247, 248] (by decide +kernel)
theorem sx_r17 : Cond.stringRef R_L 65 "message" ∈ lw_tbl := List.mem_append_right _ (List.mem_of_getElem? (i := 612) (by decide +kernel))
theorem sx_i18 : ∀ w ∈ sx_ws (R_L, 67, "on"), w ∈ fl_S := fl_in [249, 250, 251, 252, 253, 254] (by decide +kernel)
theorem sx_r18 : Cond.stringRef R_L 67 "on" ∈ lw_tbl := List.mem_append_right _ (List.mem_of_getElem? (i := 613) (by decide +kernel))
theorem sx_i19 : ∀ w ∈ sx_ws (R_L, 69, "never"), w ∈ fl_S := fl_in [255, 256, 257, 258, 259, 260, 261, 262, 263] (by decide +kernel)
theorem sx_r19 : Cond.stringRef R_L 69 "never" ∈ lw_tbl := List.mem_append_right _ (List.mem_of_getElem? (i := 614) (by decide +kernel))
theorem sx_i20 : ∀ w ∈ sx_ws (R_L, 71, "first"), w ∈ fl_S := fl_in [264, 265, 266, 267, 268, 269, 270, 271, 272] (by decide +kernel)
theorem sx_r20 : Cond.stringRef R_L 71 "first" ∈ lw_tbl := List.mem_append_right _ (List.mem_of_getElem? (i := 615) (by decide +kernel))
theorem sx_i21 : ∀ w ∈ sx_ws (R_L, 73, "send"), w ∈ fl_S := fl_in [273, 274, 275, 276, 277, 278, 279, 280] (by decide +kernel)
theorem sx_r21 : Cond.stringRef R_L 73 "send" ∈ lw_tbl := List.mem_append_right _ (List.mem_of_getElem? (i := 616) (by decide +kernel))
theorem sx_i22 : ∀ w ∈ sx_ws (R_L, 75, "take"), w ∈ fl_S := fl_in [281, 282, 283, 284, 285, 286, 287, 288] (by decide +kernel)
theorem sx_r22 : Cond.stringRef R_L 75 "take" ∈ lw_tbl := List.mem_append_right _ (List.mem_of_getElem? (i := 617) (by decide +kernel))
theorem sx_i23 : ∀ w ∈ sx_ws (R_L, 77, "keep"), w ∈ fl_S := fl_in [290, 291, 292, 293, 294, 295, 296, 297] (by decide +kernel)
theorem sx_r23 : Cond.stringRef R_L 77 "keep" ∈ lw_tbl := List.mem_append_right _ (List.mem_of_getElem? (i := 618) (by decide +kernel))
theorem sx_i24 : ∀ w ∈ sx_ws (R_X, 106, "the text has a fault"), w ∈ fl_S := fl_in [299, 300, 301, 302, 303, 304, 305, 306, 307, 308, 309, 310, 311, 312, 313, 314, 315, 316, 317, 318, 319, 320, 321, 322] (by decide +kernel)
theorem sx_r24 : Cond.stringRef R_X 106 "the text has a fault" ∈ lw_tbl := List.mem_append_right _ (List.mem_of_getElem? (i := 726) (by decide +kernel))
theorem sx_i25 : ∀ w ∈ sx_ws (R_X, 116, "neither the fault nor its place"), w ∈ fl_S := fl_in [323, 324, 325, 326, 327, 328, 329, 330, 331, 332, 333, 334, 335, 336, 337, 338, 339, 340, 341, 342, 343, 344, 345, 346, 347, 348, 349, 350, 351, 352, 353, 354, 355, 356, 357] (by decide +kernel)
theorem sx_r25 : Cond.stringRef R_X 116 "neither the fault nor its place" ∈ lw_tbl := List.mem_append_right _ (List.mem_of_getElem? (i := 752) (by decide +kernel))
theorem sx_i26 : ∀ w ∈ sx_ws (R_X, 123, "no such state or event"), w ∈ fl_S := fl_in [358, 359, 360, 361, 362, 363, 364, 365, 366, 367, 368, 369, 370, 371, 372, 373, 374, 375, 376, 377, 378, 379, 380, 381, 382, 383] (by decide +kernel)
theorem sx_r26 : Cond.stringRef R_X 123 "no such state or event" ∈ lw_tbl := List.mem_append_right _ (List.mem_of_getElem? (i := 767) (by decide +kernel))
theorem sx_i27 : ∀ w ∈ sx_ws (R_X, 129, "no such state, event or action"), w ∈ fl_S := fl_in [384, 385, 386, 387, 388, 389, 390, 391, 392, 393, 394, 395, 396, 397, 398, 399, 400, 401, 402, 403, 404, 405, 406, 407, 408, 409, 410, 411, 412, 413, 414, 415, 416, 417] (by decide +kernel)
theorem sx_r27 : Cond.stringRef R_X 129 "no such state, event or action" ∈ lw_tbl := List.mem_append_right _ (List.mem_of_getElem? (i := 775) (by decide +kernel))
theorem sx_i28 : ∀ w ∈ sx_ws (R_X, 138, "no such missing pair"), w ∈ fl_S := fl_in [418, 419, 420, 421, 422, 423, 424, 425, 426, 427, 428, 429, 430, 431, 432, 433, 434, 435, 436, 437, 438, 439, 440, 441] (by decide +kernel)
theorem sx_r28 : Cond.stringRef R_X 138 "no such missing pair" ∈ lw_tbl := List.mem_append_right _ (List.mem_of_getElem? (i := 788) (by decide +kernel))
theorem sx_i29 : ∀ w ∈ sx_ws (R_X, 143, "no such state or what"), w ∈ fl_S := fl_in [442, 443, 444, 445, 446, 447, 448, 449, 450, 451, 452, 453, 454, 455, 456, 457, 458, 459, 460, 461, 462, 463, 464, 465, 466] (by decide +kernel)
theorem sx_r29 : Cond.stringRef R_X 143 "no such state or what" ∈ lw_tbl := List.mem_append_right _ (List.mem_of_getElem? (i := 796) (by decide +kernel))
theorem sx_i30 : ∀ w ∈ sx_ws (R_X, 155, "no such message"), w ∈ fl_S := fl_in [467, 468, 469, 470, 471, 472, 473, 474, 475, 476, 477, 478, 479, 480, 481, 482, 483, 484, 485] (by decide +kernel)
theorem sx_r30 : Cond.stringRef R_X 155 "no such message" ∈ lw_tbl := List.mem_append_right _ (List.mem_of_getElem? (i := 805) (by decide +kernel))
theorem sx_i31 : ∀ w ∈ sx_ws (R_X, 169, "no such byte"), w ∈ fl_S := fl_in [486, 487, 488, 489, 490, 491, 492, 493, 494, 495, 496, 497, 498, 499, 500, 501] (by decide +kernel)
theorem sx_r31 : Cond.stringRef R_X 169 "no such byte" ∈ lw_tbl := List.mem_append_right _ (List.mem_of_getElem? (i := 825) (by decide +kernel))
theorem sx_i32 : ∀ w ∈ sx_ws (R_X, 175, "too long for a text"), w ∈ fl_S := fl_in [502, 503, 504, 505, 506, 507, 508, 509, 510, 511, 512, 513, 514, 515, 516, 517, 518, 519, 520, 521, 522, 523, 524] (by decide +kernel)
theorem sx_r32 : Cond.stringRef R_X 175 "too long for a text" ∈ lw_tbl := List.mem_append_right _ (List.mem_of_getElem? (i := 833) (by decide +kernel))
theorem sx_all : ∀ (i : Nat) (q : String × Nat × String), sx_L[i]? = some q → (∀ w ∈ sx_ws q, w ∈ fl_S) ∧ Cond.stringRef q.1 q.2.1 q.2.2 ∈ lw_tbl := by
  intro i q hq
  match i, hq with
  | 0, hq => cases hq; exact ⟨sx_i0, sx_r0⟩
  | 1, hq => cases hq; exact ⟨sx_i1, sx_r1⟩
  | 2, hq => cases hq; exact ⟨sx_i2, sx_r2⟩
  | 3, hq => cases hq; exact ⟨sx_i3, sx_r3⟩
  | 4, hq => cases hq; exact ⟨sx_i4, sx_r4⟩
  | 5, hq => cases hq; exact ⟨sx_i5, sx_r5⟩
  | 6, hq => cases hq; exact ⟨sx_i6, sx_r6⟩
  | 7, hq => cases hq; exact ⟨sx_i7, sx_r7⟩
  | 8, hq => cases hq; exact ⟨sx_i8, sx_r8⟩
  | 9, hq => cases hq; exact ⟨sx_i9, sx_r9⟩
  | 10, hq => cases hq; exact ⟨sx_i10, sx_r10⟩
  | 11, hq => cases hq; exact ⟨sx_i11, sx_r11⟩
  | 12, hq => cases hq; exact ⟨sx_i12, sx_r12⟩
  | 13, hq => cases hq; exact ⟨sx_i13, sx_r13⟩
  | 14, hq => cases hq; exact ⟨sx_i14, sx_r14⟩
  | 15, hq => cases hq; exact ⟨sx_i15, sx_r15⟩
  | 16, hq => cases hq; exact ⟨sx_i16, sx_r16⟩
  | 17, hq => cases hq; exact ⟨sx_i17, sx_r17⟩
  | 18, hq => cases hq; exact ⟨sx_i18, sx_r18⟩
  | 19, hq => cases hq; exact ⟨sx_i19, sx_r19⟩
  | 20, hq => cases hq; exact ⟨sx_i20, sx_r20⟩
  | 21, hq => cases hq; exact ⟨sx_i21, sx_r21⟩
  | 22, hq => cases hq; exact ⟨sx_i22, sx_r22⟩
  | 23, hq => cases hq; exact ⟨sx_i23, sx_r23⟩
  | 24, hq => cases hq; exact ⟨sx_i24, sx_r24⟩
  | 25, hq => cases hq; exact ⟨sx_i25, sx_r25⟩
  | 26, hq => cases hq; exact ⟨sx_i26, sx_r26⟩
  | 27, hq => cases hq; exact ⟨sx_i27, sx_r27⟩
  | 28, hq => cases hq; exact ⟨sx_i28, sx_r28⟩
  | 29, hq => cases hq; exact ⟨sx_i29, sx_r29⟩
  | 30, hq => cases hq; exact ⟨sx_i30, sx_r30⟩
  | 31, hq => cases hq; exact ⟨sx_i31, sx_r31⟩
  | 32, hq => cases hq; exact ⟨sx_i32, sx_r32⟩
  | i + 33, hq => simp [sx_L] at hq
theorem sx_OF {args : Array Value} {s : State} {t : Term} {o n d : String} {v : Value} {a : Nat} {A : Nat → Prop} (ht : t.eval args s none [] s = some (.ref a)) (h : (Term.field t o n d).eval args s none [] s = some v) (hA : ∀ a : Nat, a < s.heap.size → ¬ A a) : va_OF o n d v a A s s.heap := by
  cases hi : s.fieldFound? o n d with
  | none => simp [Term.eval, ht, State.fieldOf?, State.fieldNamed?, hi] at h
  | some x =>
    obtain ⟨c, k, i, f⟩ := x
    obtain ⟨hst, cell, hc, hu, -, -, hs⟩ := Term.field_spec hi ht h
    exact ⟨c, k, i, f, cell, hi, hst, hc, hu, hs, hA a (Array.getElem?_eq_some_iff.mp hc).1⟩
theorem sx_of {args : Array Value} {s : State} {q : String × Nat × String} {A : Nat → Prop} (h1 : (Cond.stringRef q.1 q.2.1 q.2.2).before args s = true) (h2 : ∀ w ∈ sx_ws q, w.before args s = true) (hq : q.2.2.toList.length < 2 ^ 31) (hA : ∀ a : Nat, a < s.heap.size → ¬ A a) : ∃ a v : Nat, sx_1 q a v A s s.heap := by
  have e1 := h2 (.exactly (.string q.1 q.2.1) "java/lang/String") (by simp [sx_ws])
  have e2 := h2 (.eq (.field (.string q.1 q.2.1) "java/lang/String" "coder" "B") (.int 0)) (by simp [sx_ws])
  have e3 := h2 (.arrayOf (sx_v q) .byte) (by simp [sx_ws])
  have e4 := h2 (.eq (.length (sx_v q)) (.int (Int32.ofNat q.2.2.toList.length))) (by simp [sx_ws])
  have e5 : ∀ j : Nat, j < q.2.2.toList.length → (Cond.eq (.elem (sx_v q) (.int (Int32.ofNat j))) (.int (iI (sx_b q.2.2 j)))).before args s = true := fun j hj => h2 _ (List.mem_append_right _ (List.mem_map.mpr ⟨j, List.mem_range.mpr hj, rfl⟩))
  obtain ⟨a, c, cell, k, q1, q2, q3, q4, q5, q6, -⟩ := Cond.exactly_spec (args := args) (first := s) (o := none) (s := s) (idx := []) e1
  have f2 : (Term.field (.string q.1 q.2.1) "java/lang/String" "coder" "B").eval args s none [] s = some (.int 0) := Cond.eq_int (args := args) (first := s) (out := none) (t := s) (idx := []) e2 rfl
  have f4 : (Term.length (sx_v q)).eval args s none [] s = some (.int (Int32.ofNat q.2.2.toList.length)) := Cond.eq_int (args := args) (first := s) (out := none) (t := s) (idx := []) e4 rfl
  have f5 : ∀ j : Nat, j < q.2.2.toList.length → (Term.elem (sx_v q) (.int (Int32.ofNat j))).eval args s none [] s = some (.int (iI (sx_b q.2.2 j))) := fun j hj => Cond.eq_int (args := args) (first := s) (out := none) (t := s) (idx := []) (e5 j hj) rfl
  obtain ⟨v, hv, hT⟩ := va_Tof hq e3 f4 (f := fun j => .int (iI (sx_b q.2.2 j))) f5 hA
  exact ⟨a, v, vk_R.of h1 q1, va_Oof e1 q1 hA, sx_OF q1 f2 hA, sx_OF q1 hv hA, hT⟩
theorem sx_ln31 : ∀ (i : Nat) (q : String × Nat × String), sx_L[i]? = some q → q.2.2.toList.length < 2 ^ 31 := by
  intro i q hq
  have h : ∀ q ∈ sx_L, q.2.2.toList.length < 2 ^ 31 := by decide +kernel
  exact h q (List.mem_of_getElem? hq)
theorem fl_cs : Cond.eq (.static R_jS "COMPACT_STRINGS" "Z") (.int 1) ∈ fl_S := List.mem_of_getElem? (i := 4) (by decide +kernel)
theorem fl_sf : Cond.isRef (.static R_jP "SIOOBE_FORMATTER" "Ljava/util/function/BiFunction;") ∈ fl_S := List.mem_of_getElem? (i := 5) (by decide +kernel)
theorem fl_us : Cond.isRef (.static Bundle.tN "UNASSIGNED_STACK" Bundle.steD) ∈ fl_S := List.mem_of_getElem? (i := 9) (by decide +kernel)
theorem fl_ss : Cond.isRef (.static Bundle.tN "SUPPRESSED_SENTINEL" Bundle.listD) ∈ fl_S := List.mem_of_getElem? (i := 10) (by decide +kernel)
theorem fl_nc : Cond.not (.castable "java/lang/IllegalStateException" "java/lang/IllegalArgumentException") ∈ fl_S := List.mem_of_getElem? (i := 31) (by decide +kernel)
theorem tl_cs : Cond.laysStatic "java/lang/String" "COMPACT_STRINGS" "Z" ∈ lw_tbl := List.mem_append_right _ (List.mem_of_getElem? (i := 269) (by decide +kernel))
theorem tl_sf : Cond.laysStatic "jdk/internal/util/Preconditions" "SIOOBE_FORMATTER" "Ljava/util/function/BiFunction;" ∈ lw_tbl := List.mem_append_right _ (List.mem_of_getElem? (i := 285) (by decide +kernel))
theorem tl_us : Cond.laysStatic "java/lang/Throwable" "UNASSIGNED_STACK" "[Ljava/lang/StackTraceElement;" ∈ lw_tbl := List.mem_append_right _ (List.mem_of_getElem? (i := 492) (by decide +kernel))
theorem tl_ss : Cond.laysStatic "java/lang/Throwable" "SUPPRESSED_SENTINEL" "Ljava/util/List;" ∈ lw_tbl := List.mem_append_right _ (List.mem_of_getElem? (i := 494) (by decide +kernel))
theorem tl_NW : NW ∈ lw_tbl := List.mem_append_right _ (List.mem_of_getElem? (i := 54) (by decide +kernel))
theorem tl_E : ∀ w ∈ tx_E, w ∈ tables_1 := by decide +kernel
theorem sy_Nof {args : Array Value} {s : State} (h : (Cond.not (.castable "java/lang/IllegalStateException" "java/lang/IllegalArgumentException")).before args s = true) : sy_N s := by
  intro c d h1 h2
  simp only [Cond.before, Cond.holds, Cond.value, h1, h2] at h
  simpa using h
theorem sArr {args : Array Value} {s : State} {ty : FieldType} (h : (Cond.arrayClass ty).before args s = true) : ∃ cA : ClassId, ArrOfT s cA ty ∧ s.vm.findClass ("[" ++ ty.toString) = some cA := by
  obtain ⟨c, k, comp, h1, h2, h3⟩ := Cond.arrayClass_spec (args := args) (first := s) (o := none) (s := s) (idx := []) h
  exact ⟨c, fun n z => ⟨fun k h => (by cases h), k, h2, comp, h3⟩, h1⟩

/-! the law's words among the tables' -/
theorem lw_at (ws : List Cond) (ps : List Nat) (hp : ws = ps.filterMap (fun i => lw_tbl[i]?)) : ∀ w ∈ ws, w ∈ lw_tbl := by
  intro w hw
  rw [hp] at hw
  obtain ⟨i, -, hi⟩ := List.mem_filterMap.mp hw
  exact List.mem_of_getElem? hi
set_option maxRecDepth 20000 in
theorem wsL_law_r1_in : ∀ w ∈ wsL_law_r1, w ∈ lw_tbl := lw_at _ [18, 19, 9, 48, 558, 20, 21, 22, 23, 24, 25, 26, 27, 10, 164, 165, 166, 118, 119, 14, 167, 137, 138, 15] (by decide +kernel)
set_option maxRecDepth 20000 in
theorem wsL_law_r2_in : ∀ w ∈ wsL_law_r2, w ∈ lw_tbl := lw_at _ [168, 28, 29, 30, 31, 32, 33, 11, 93, 94, 49, 50, 12, 95, 65, 66, 13, 96, 84, 86, 87, 88, 89, 90] (by decide +kernel)
set_option maxRecDepth 20000 in
theorem wsL_law_r3_in : ∀ w ∈ wsL_law_r3, w ∈ lw_tbl := lw_at _ [92, 97, 98, 34, 35, 36, 37, 38, 39, 51, 52, 53, 54, 55, 56, 57, 67, 68, 69, 70, 71, 72, 73, 120] (by decide +kernel)
set_option maxRecDepth 20000 in
theorem wsL_law_r4_in0 : ∀ w ∈ [Cond.instanceMethod yX1_init, Cond.code yX1_init cX1_init 2 none, Cond.methodLink RX1 3 objectInit, Cond.classLink RX1 11 RX4, Cond.fieldLink RX1 13 "LoopMemo$History" "slots" "[LLoopMemo$State;", Cond.methodLink RX1 17 yX4_init, Cond.methodLink RX6 31 yX3_init, Cond.instanceMethod yX3_init, Cond.code yX3_init cX3_init 1 none, Cond.methodLink RX3 3 objectInit, Cond.fieldLink RX3 9 "LoopMemo$Pad" "codes" "[I", Cond.methodLink RL 114 yL_cell, Cond.static yL_cell, Cond.initialized RL, Cond.code yL_cell cL_cell 2 (some .int), Cond.constant RL 7 (40503), Cond.methodLink RL 118 yL_isActed, Cond.static yL_isActed], w ∈ lw_tbl := lw_at _ [121, 122, 123, 124, 127, 126, 139, 140, 141, 142, 143, 188, 189, 8, 190, 191, 359, 360] (by decide +kernel)
set_option maxRecDepth 20000 in
theorem wsL_law_r4_in1 : ∀ w ∈ [Cond.code yL_isActed cL_isActed 12 (some .boolean)], w ∈ lw_tbl := lw_at _ [361] rfl
set_option maxRecDepth 20000 in
theorem wsL_law_r4_in2 : ∀ w ∈ [Cond.methodLink RL 84 yL_isRow, Cond.static yL_isRow, Cond.code yL_isRow cL_isRow 11 (some .boolean), Cond.methodLink RL 70 yX6_add, Cond.instanceMethod yX6_add], w ∈ lw_tbl := lw_at _ [362, 363, 364, 365, 366] (by decide +kernel)
set_option maxRecDepth 20000 in
theorem wsL_law_r4_in : ∀ w ∈ wsL_law_r4, w ∈ lw_tbl := List.forall_mem_append.mpr ⟨wsL_law_r4_in0, List.forall_mem_append.mpr ⟨wsL_law_r4_in1, wsL_law_r4_in2⟩⟩
set_option maxRecDepth 20000 in
theorem wsL_law_r5_in : ∀ w ∈ wsL_law_r5, w ∈ lw_tbl := lw_at _ [367, 368, 369, 370, 371, 372, 128, 373, 375, 2, 376, 377, 378, 379, 380, 99, 100, 381, 382, 383, 384, 40, 386, 387] (by decide +kernel)
set_option maxRecDepth 20000 in
theorem wsL_law_r6_in : ∀ w ∈ wsL_law_r6, w ∈ lw_tbl := lw_at _ [388, 389, 16, 390, 391, 393, 392, 17, 394, 395, 396, 397, 399, 400, 401, 402, 74, 405, 406, 407, 408, 410, 411, 274] (by decide +kernel)
set_option maxRecDepth 20000 in
theorem wsL_law_r7_in : ∀ w ∈ wsL_law_r7, w ∈ lw_tbl := lw_at _ [275, 276, 247, 248, 249, 412, 200, 201, 202, 350, 204, 205, 206, 413, 414, 415, 416, 417, 418, 419, 420, 421, 423, 3] (by decide +kernel)
set_option maxRecDepth 20000 in
theorem wsL_law_r8_in : ∀ w ∈ wsL_law_r8, w ∈ lw_tbl := lw_at _ [424, 425, 427, 4, 428, 429, 430, 431, 432, 433, 434, 325, 326, 327, 435, 321, 322, 323, 436, 437, 438, 439, 440, 441] (by decide +kernel)
set_option maxRecDepth 20000 in
theorem wsL_law_r9_in : ∀ w ∈ wsL_law_r9, w ∈ lw_tbl := lw_at _ [442, 443, 444, 212, 213, 214, 445, 447, 5, 448, 219, 220, 221, 222, 449, 450, 451, 452, 453, 454, 455, 456, 129, 457] (by decide +kernel)
set_option maxRecDepth 20000 in
theorem wsL_law_r10_in : ∀ w ∈ wsL_law_r10, w ∈ lw_tbl := lw_at _ [458, 459, 460, 302, 303, 304, 461, 462, 463, 254, 255, 256, 299, 300, 301, 464, 465, 466, 467, 468, 469, 470, 471, 472] (by decide +kernel)
set_option maxRecDepth 20000 in
theorem wsL_law_r11_in : ∀ w ∈ wsL_law_r11, w ∈ lw_tbl := lw_at _ [473, 474, 475, 317, 318, 319, 332, 476, 477, 478, 479, 480, 481, 482, 483, 339, 340, 341, 484, 485, 486, 487, 488, 489] (by decide +kernel)
set_option maxRecDepth 20000 in
theorem wsL_law_r12_in : ∀ w ∈ wsL_law_r12, w ∈ lw_tbl := lw_at _ [490, 491, 492, 493, 494, 495, 496, 497, 498, 499, 260, 261, 262, 500, 501, 502, 267, 268, 269, 257, 258, 259, 503, 504] (by decide +kernel)
set_option maxRecDepth 20000 in
theorem wsL_law_r13_in : ∀ w ∈ wsL_law_r13, w ∈ lw_tbl := lw_at _ [505, 506, 507, 508, 509, 510, 511, 513, 6, 514, 515, 516, 517, 518, 223, 224, 225, 226, 519, 520, 521, 522, 523, 525] (by decide +kernel)
set_option maxRecDepth 20000 in
theorem wsL_law_r14_in : ∀ w ∈ wsL_law_r14, w ∈ lw_tbl := lw_at _ [7, 526, 527, 216, 217, 218, 528, 529, 530, 531, 286, 288, 0, 289, 333, 351, 352, 353, 354, 532, 533, 534, 535, 536] (by decide +kernel)
set_option maxRecDepth 20000 in
theorem wsL_law_r15_in0 : ∀ w ∈ [Cond.instanceMethod yX4_beginAgain, Cond.selects RX4 yX4_beginAgain yX4_beginAgain, Cond.code yX4_beginAgain cX4_beginAgain 2 (some .int), Cond.methodLink RL 106 yX6_forget, Cond.instanceMethod yX6_forget, Cond.selects RX6 yX6_forget yX6_forget, Cond.code yX6_forget cX6_forget 1 (some .int), Cond.methodLink RX6 63 yX4_throwAllOut, Cond.methodLink RL 109 yL_isSet, Cond.static yL_isSet, Cond.code yL_isSet cL_isSet 10 (some .boolean), Cond.methodLink RL 81 yX6_set, Cond.instanceMethod yX6_set, Cond.selects RX6 yX6_set yX6_set, Cond.code yX6_set cX6_set 3 (some .int), Cond.methodLink RX6 66 yX4_adjust, Cond.instanceMethod yX4_adjust, Cond.selects RX4 yX4_adjust yX4_adjust, Cond.code yX4_adjust cX4_adjust 3 (some .int), Cond.fieldLink RX4 128 "LoopMemo$State" "HIGHEST_SETTINGS" "[I", Cond.methodLink RL 122 yL_areTold, Cond.static yL_areTold], w ∈ lw_tbl := lw_at _ [537, 538, 539, 540, 541, 542, 543, 544, 545, 546, 547, 548, 549, 550, 551, 552, 553, 554, 555, 556, 192, 193] (by decide +kernel)
set_option maxRecDepth 20000 in
theorem wsL_law_r15_in1 : ∀ w ∈ [Cond.code yL_areTold cL_areTold 15 (some .boolean)], w ∈ lw_tbl := lw_at _ [194] rfl
set_option maxRecDepth 20000 in
theorem wsL_law_r15_in2 : ∀ w ∈ [Cond.methodLink RL 46 yX6_count], w ∈ lw_tbl := lw_at _ [195] (by decide +kernel)
set_option maxRecDepth 20000 in
theorem wsL_law_r15_in : ∀ w ∈ wsL_law_r15, w ∈ lw_tbl := List.forall_mem_append.mpr ⟨wsL_law_r15_in0, List.forall_mem_append.mpr ⟨wsL_law_r15_in1, wsL_law_r15_in2⟩⟩
set_option maxRecDepth 20000 in
theorem wsL_law_r16_in : ∀ w ∈ wsL_law_r16, w ∈ lw_tbl := lw_at _ [196, 197, 198, 199, 203, 207, 208, 209, 210, 211, 215, 227, 228, 229, 230, 231, 232, 233, 234, 235, 236, 237, 238, 239] (by decide +kernel)
set_option maxRecDepth 20000 in
theorem wsL_law_r17_in : ∀ w ∈ wsL_law_r17, w ∈ lw_tbl := lw_at _ [240, 241, 242, 144, 243, 244, 245, 246, 250, 251, 252, 253, 263, 264, 265, 266, 270, 271, 272, 273, 277, 278, 279, 280] (by decide +kernel)
set_option maxRecDepth 20000 in
theorem wsL_law_r18_in0 : ∀ w ∈ [Cond.code yX2_uses cX2_uses 2 (some .int), Cond.methodLink RX6 174 yX2_placeOf, Cond.instanceMethod yX2_placeOf, Cond.selects RX2 yX2_placeOf yX2_placeOf, Cond.code yX2_placeOf cX2_placeOf 5 (some .int), Cond.methodLink RX6 150 yX4_answers, Cond.instanceMethod yX4_answers, Cond.selects RX4 yX4_answers yX4_answers, Cond.code yX4_answers cX4_answers 1 (some (.object "LoopMemo$Answers")), Cond.methodLink RX6 154 yX0_tell, Cond.instanceMethod yX0_tell, Cond.selects RX0 yX0_tell yX0_tell, Cond.code yX0_tell cX0_tell 3 (some .int), Cond.methodLink RX0 38 yX0_weight, Cond.methodLink RL 60 yX6_answer, Cond.instanceMethod yX6_answer, Cond.selects RX6 yX6_answer yX6_answer, Cond.code yX6_answer cX6_answer 3 (some .int), Cond.methodLink RL 126 yL_areRows, Cond.static yL_areRows], w ∈ lw_tbl := lw_at _ [281, 282, 283, 284, 285, 290, 291, 292, 293, 294, 295, 296, 297, 298, 305, 306, 307, 308, 309, 310] (by decide +kernel)
set_option maxRecDepth 20000 in
theorem wsL_law_r18_in1 : ∀ w ∈ [Cond.code yL_areRows cL_areRows 9 (some .boolean)], w ∈ lw_tbl := lw_at _ [311] rfl
set_option maxRecDepth 20000 in
theorem wsL_law_r18_in2 : ∀ w ∈ [Cond.methodLink RL 63 yX6_row, Cond.instanceMethod yX6_row, Cond.selects RX6 yX6_row yX6_row], w ∈ lw_tbl := lw_at _ [312, 313, 314] (by decide +kernel)
set_option maxRecDepth 20000 in
theorem wsL_law_r18_in : ∀ w ∈ wsL_law_r18, w ∈ lw_tbl := List.forall_mem_append.mpr ⟨wsL_law_r18_in0, List.forall_mem_append.mpr ⟨wsL_law_r18_in1, wsL_law_r18_in2⟩⟩
set_option maxRecDepth 20000 in
theorem wsL_law_r19_in : ∀ w ∈ wsL_law_r19, w ∈ lw_tbl := lw_at _ [315, 316, 320, 324, 328, 329, 330, 331, 334, 336, 1, 337, 338, 342, 343, 344, 345, 346, 347, 348, 349, 355, 356, 357] (by decide +kernel)
set_option maxRecDepth 20000 in
theorem wsL_law_r20_in : ∀ w ∈ wsL_law_r20, w ∈ lw_tbl := lw_at _ [358] (by decide +kernel)
set_option maxRecDepth 20000 in
theorem wsX00_in : ∀ w ∈ wsX00, w ∈ lw_tbl := lw_at _ [58, 60, 62] (by decide +kernel)
set_option maxRecDepth 20000 in
theorem wsX10_in : ∀ w ∈ wsX10, w ∈ lw_tbl := lw_at _ [130, 132, 134] (by decide +kernel)
set_option maxRecDepth 20000 in
theorem wsX20_in : ∀ w ∈ wsX20, w ∈ lw_tbl := lw_at _ [75, 77, 79, 81] (by decide +kernel)
set_option maxRecDepth 20000 in
theorem wsX30_in : ∀ w ∈ wsX30, w ∈ lw_tbl := lw_at _ [145, 147, 149, 151, 153, 155, 157, 159, 161] (by decide +kernel)
set_option maxRecDepth 20000 in
theorem wsX40_in : ∀ w ∈ wsX40, w ∈ lw_tbl := lw_at _ [101, 103, 105, 107, 109, 111, 113, 115] (by decide +kernel)
set_option maxRecDepth 20000 in
theorem wsX50_in : ∀ w ∈ wsX50, w ∈ lw_tbl := lw_at _ [41, 43, 45] (by decide +kernel)
set_option maxRecDepth 20000 in
theorem wsX60_in : ∀ w ∈ wsX60, w ∈ lw_tbl := lw_at _ [169, 171, 173, 175, 177, 179, 181, 183, 185] (by decide +kernel)
theorem lw_ap {a b : List Cond} (ha : ∀ w ∈ a, w ∈ lw_tbl) (hb : ∀ w ∈ b, w ∈ lw_tbl) : ∀ w ∈ a ++ b, w ∈ lw_tbl := List.forall_mem_append.mpr ⟨ha, hb⟩
theorem wsL_law_in : ∀ w ∈ wsL_law, w ∈ lw_tbl := (lw_ap (lw_ap (lw_ap (lw_ap (lw_ap (lw_ap (lw_ap (lw_ap (lw_ap wsL_law_r1_in (lw_ap wsL_law_r2_in (lw_ap wsL_law_r3_in (lw_ap wsL_law_r4_in (lw_ap wsL_law_r5_in (lw_ap wsL_law_r6_in (lw_ap wsL_law_r7_in (lw_ap wsL_law_r8_in (lw_ap wsL_law_r9_in (lw_ap wsL_law_r10_in (lw_ap wsL_law_r11_in (lw_ap wsL_law_r12_in (lw_ap wsL_law_r13_in (lw_ap wsL_law_r14_in (lw_ap wsL_law_r15_in (lw_ap wsL_law_r16_in (lw_ap wsL_law_r17_in (lw_ap wsL_law_r18_in (lw_ap wsL_law_r19_in (wsL_law_r20_in)))))))))))))))))))) wsX60_in) wsX40_in) wsX10_in) wsX30_in) wsX50_in) wsX00_in) wsX20_in) (fun w h => absurd h List.not_mem_nil))
theorem inlX0 : ∀ w ∈ wsX00, w ∈ wsL_law := fun _ h => List.mem_append_left _ (List.mem_append_left _ (List.mem_append_right _ h))
theorem inX0 : ∀ w ∈ wsX00, w ∈ lw_tbl := fun w h => wsL_law_in w (inlX0 w h)
theorem inlX1 : ∀ w ∈ wsX10, w ∈ wsL_law := fun _ h => List.mem_append_left _ (List.mem_append_left _ (List.mem_append_left _ (List.mem_append_left _ (List.mem_append_left _ (List.mem_append_right _ h)))))
theorem inX1 : ∀ w ∈ wsX10, w ∈ lw_tbl := fun w h => wsL_law_in w (inlX1 w h)
theorem inlX2 : ∀ w ∈ wsX20, w ∈ wsL_law := fun _ h => List.mem_append_left _ (List.mem_append_right _ h)
theorem inX2 : ∀ w ∈ wsX20, w ∈ lw_tbl := fun w h => wsL_law_in w (inlX2 w h)
theorem inlX3 : ∀ w ∈ wsX30, w ∈ wsL_law := fun _ h => List.mem_append_left _ (List.mem_append_left _ (List.mem_append_left _ (List.mem_append_left _ (List.mem_append_right _ h))))
theorem inX3 : ∀ w ∈ wsX30, w ∈ lw_tbl := fun w h => wsL_law_in w (inlX3 w h)
theorem inlX4 : ∀ w ∈ wsX40, w ∈ wsL_law := fun _ h => List.mem_append_left _ (List.mem_append_left _ (List.mem_append_left _ (List.mem_append_left _ (List.mem_append_left _ (List.mem_append_left _ (List.mem_append_right _ h))))))
theorem inX4 : ∀ w ∈ wsX40, w ∈ lw_tbl := fun w h => wsL_law_in w (inlX4 w h)
theorem inlX5 : ∀ w ∈ wsX50, w ∈ wsL_law := fun _ h => List.mem_append_left _ (List.mem_append_left _ (List.mem_append_left _ (List.mem_append_right _ h)))
theorem inX5 : ∀ w ∈ wsX50, w ∈ lw_tbl := fun w h => wsL_law_in w (inlX5 w h)
theorem inlX6 : ∀ w ∈ wsX60, w ∈ wsL_law := fun _ h => List.mem_append_left _ (List.mem_append_left _ (List.mem_append_left _ (List.mem_append_left _ (List.mem_append_left _ (List.mem_append_left _ (List.mem_append_left _ (List.mem_append_right _ h)))))))
theorem inX6 : ∀ w ∈ wsX60, w ∈ lw_tbl := fun w h => wsL_law_in w (inlX6 w h)

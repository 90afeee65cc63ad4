set_option maxRecDepth 20000 in
theorem gL_law_L_told : GoodIn wsL_law (va_wsS RL 83 yL_told wsL_told) := goodIn_app (goodIn_of _ (by decide +kernel)) ggL_law_L_told
set_option maxRecDepth 20000 in
theorem ggL_law_L_cell : GoodIn wsL_law wsL_cell := goodIn_r _ [289] (by decide +kernel) (by decide +kernel)
set_option maxRecDepth 20000 in
theorem gL_law_L_cell : GoodIn wsL_law (va_wsS RL 87 yL_cell wsL_cell) := goodIn_app (goodIn_of _ (by decide +kernel)) ggL_law_L_cell
set_option maxRecDepth 20000 in
theorem ggL_law_X5_count : GoodIn wsL_law wsX5_count := goodIn_r _ [141, 12, 18, 22, 120, 121, 122, 11, 123, 93, 37, 124, 125, 126, 34, 127, 56, 142, 143, 144, 30, 145, 50, 48, 146, 147, 117, 148, 149, 150, 151, 152, 153, 154, 116, 118, 155, 156, 157, 158, 31, 159, 160, 161, 162, 49, 522, 523, 524, 525, 526, 527, 528, 529, 530, 531, 532, 533, 534, 535, 536, 537, 538, 539, 545, 546, 547, 548, 549, 540, 541, 542, 543, 544, 550] (by decide +kernel) (by decide +kernel)
set_option maxRecDepth 20000 in
theorem gL_law_X5_count : GoodIn wsL_law (wsV RL 12 RX5 yX5_count wsX5_count) := goodIn_app (goodIn_of _ (by decide +kernel)) ggL_law_X5_count
theorem ggL_law_L_act_c : GoodIn wsL_law [.code yL_act cL_act 6 (some .int)] := goodIn_r _ [292] (by decide +kernel) (by decide +kernel)
set_option maxRecDepth 20000 in
theorem ggL_law_L_act_wsL_act_r1 : GoodIn wsL_law wsL_act_r1 := goodIn_r _ [293, 294, 134, 295, 296, 138, 139, 140, 2, 141, 12, 18, 22, 120, 121, 122, 11, 123, 93, 37, 124, 125, 126, 34] (by decide +kernel) (by decide +kernel)
set_option maxRecDepth 20000 in
theorem ggL_law_L_act_wsL_act_r2 : GoodIn wsL_law wsL_act_r2 := goodIn_r _ [127, 56, 142, 143, 144, 30, 145, 50, 48, 146, 147, 117, 148, 149, 150, 151, 152, 153, 154, 116, 118, 155, 156, 157] (by decide +kernel) (by decide +kernel)
set_option maxRecDepth 20000 in
theorem ggL_law_L_act_wsL_act_r3 : GoodIn wsL_law wsL_act_r3 := goodIn_r _ [158, 31, 159, 160, 161, 162, 49, 297, 298, 299, 300, 301, 302, 303, 304, 305, 306, 307, 35, 36, 308, 194, 195, 196] (by decide +kernel) (by decide +kernel)
set_option maxRecDepth 20000 in
theorem ggL_law_L_act_wsL_act_r4 : GoodIn wsL_law wsL_act_r4 := goodIn_r _ [197, 198, 199, 200, 46, 47, 177, 178, 179, 180, 309, 310, 311, 312, 313, 270, 271, 272, 314, 315, 316, 317, 318, 168] (by decide +kernel) (by decide +kernel)
set_option maxRecDepth 20000 in
theorem ggL_law_L_act_wsL_act_r5 : GoodIn wsL_law wsL_act_r5 := goodIn_r _ [169, 170, 319, 320, 321, 322, 323, 324, 325, 326, 327, 328, 111, 112, 113, 17, 114, 83, 84, 115, 85, 86, 87, 88] (by decide +kernel) (by decide +kernel)
set_option maxRecDepth 20000 in
theorem ggL_law_L_act_wsL_act_r6 : GoodIn wsL_law wsL_act_r6 := goodIn_r _ [67, 89, 90, 91, 92, 94, 95, 96, 97, 38, 39, 40, 98, 99, 100, 101, 102, 103, 104, 105, 106, 329, 330, 331] (by decide +kernel) (by decide +kernel)
set_option maxRecDepth 20000 in
theorem ggL_law_L_act_wsL_act_r7 : GoodIn wsL_law wsL_act_r7 := goodIn_r _ [332, 333, 334, 335, 336, 337, 338, 339, 340, 341, 342, 343, 344, 345, 346, 347, 348, 57, 58, 59, 60, 349, 350, 351] (by decide +kernel) (by decide +kernel)
set_option maxRecDepth 20000 in
theorem ggL_law_L_act_wsL_act_r8 : GoodIn wsL_law wsL_act_r8 := goodIn_r _ [352, 353, 354, 355, 356, 357, 167, 358, 359, 360, 361, 362, 363, 364, 365, 366, 367, 368, 369, 370, 371, 372, 373, 374] (by decide +kernel) (by decide +kernel)
set_option maxRecDepth 20000 in
theorem ggL_law_L_act_wsL_act_r9 : GoodIn wsL_law wsL_act_r9 := goodIn_r _ [263, 264, 265, 266, 375, 376, 377, 378, 379, 380, 381, 382, 193, 383, 206, 207, 208, 209, 210, 211, 212, 213, 214, 215] (by decide +kernel) (by decide +kernel)
set_option maxRecDepth 20000 in
theorem ggL_law_L_act_wsL_act_r10 : GoodIn wsL_law wsL_act_r10 := goodIn_r _ [216, 217, 218, 219, 220, 221, 222, 223, 224, 225, 226, 227, 228, 229, 230, 384, 385, 386, 387, 388, 389, 390, 391, 174] (by decide +kernel) (by decide +kernel)
set_option maxRecDepth 20000 in
theorem ggL_law_L_act_wsL_act_r11 : GoodIn wsL_law wsL_act_r11 := goodIn_r _ [175, 176, 392, 393, 394, 395, 396, 397, 398, 399, 400, 401, 402, 403, 404, 405, 406, 407, 408, 409, 171, 410, 269, 411] (by decide +kernel) (by decide +kernel)
set_option maxRecDepth 20000 in
theorem ggL_law_L_act_wsL_act_r12 : GoodIn wsL_law wsL_act_r12 := goodIn_r _ [412, 413, 414, 415, 416, 417, 418, 419, 420, 421, 422, 423, 424, 425, 426, 427, 428, 429, 430, 431, 432, 433, 434, 435] (by decide +kernel) (by decide +kernel)
set_option maxRecDepth 20000 in
theorem ggL_law_L_act_wsL_act_r13 : GoodIn wsL_law wsL_act_r13 := goodIn_r _ [436, 437, 277, 278, 279, 280, 438, 282, 283, 284, 285, 286, 186, 187, 188, 189, 190, 191, 192, 107, 108, 109, 110, 23] (by decide +kernel) (by decide +kernel)
set_option maxRecDepth 20000 in
theorem ggL_law_L_act_wsL_act_r14 : GoodIn wsL_law wsL_act_r14 := goodIn_r _ [14, 119, 439, 440, 441, 442, 443, 444, 445, 446, 447, 448, 449, 21, 450, 451, 74, 452, 453, 454, 455, 13, 456, 457] (by decide +kernel) (by decide +kernel)
set_option maxRecDepth 20000 in
theorem ggL_law_L_act_wsL_act_r15 : GoodIn wsL_law wsL_act_r15 := goodIn_r _ [458, 459, 460, 461, 462, 463, 464, 465, 466, 467, 468, 469, 470, 471, 472, 473, 474, 475, 476, 477] (by decide +kernel) (by decide +kernel)
set_option maxRecDepth 20000 in
theorem ggL_law_L_act_wsX50 : GoodIn wsL_law wsX50 := goodIn_r _ [522, 523, 524, 525, 526, 527] (by decide +kernel) (by decide +kernel)
set_option maxRecDepth 20000 in
theorem ggL_law_L_act_wsX00 : GoodIn wsL_law wsX00 := goodIn_r _ [528, 529, 530, 531, 532, 533, 534, 535, 536, 537, 538, 539] (by decide +kernel) (by decide +kernel)
set_option maxRecDepth 20000 in
theorem ggL_law_L_act_wsX30 : GoodIn wsL_law wsX30 := goodIn_r _ [545, 546, 547, 548, 549] (by decide +kernel) (by decide +kernel)
set_option maxRecDepth 20000 in
theorem ggL_law_L_act_wsX20 : GoodIn wsL_law wsX20 := goodIn_r _ [540, 541, 542] (by decide +kernel) (by decide +kernel)
set_option maxRecDepth 20000 in
theorem ggL_law_L_act_wsX10 : GoodIn wsL_law wsX10 := goodIn_r _ [543, 544] (by decide +kernel) (by decide +kernel)
set_option maxRecDepth 20000 in
theorem ggL_law_L_act_wsX40 : GoodIn wsL_law wsX40 := goodIn_r _ [550] (by decide +kernel) (by decide +kernel)
theorem ggL_law_L_act : GoodIn wsL_law wsL_act := by
  unfold wsL_act
  exact List.forall_mem_cons.mpr ⟨ggL_law_L_act_c _ List.mem_cons_self, (List.forall_mem_append.mpr ⟨(List.forall_mem_append.mpr ⟨(List.forall_mem_append.mpr ⟨(List.forall_mem_append.mpr ⟨(List.forall_mem_append.mpr ⟨(List.forall_mem_append.mpr ⟨(List.forall_mem_append.mpr ⟨ggL_law_L_act_wsL_act_r1, (List.forall_mem_append.mpr ⟨ggL_law_L_act_wsL_act_r2, (List.forall_mem_append.mpr ⟨ggL_law_L_act_wsL_act_r3, (List.forall_mem_append.mpr ⟨ggL_law_L_act_wsL_act_r4, (List.forall_mem_append.mpr ⟨ggL_law_L_act_wsL_act_r5, (List.forall_mem_append.mpr ⟨ggL_law_L_act_wsL_act_r6, (List.forall_mem_append.mpr ⟨ggL_law_L_act_wsL_act_r7, (List.forall_mem_append.mpr ⟨ggL_law_L_act_wsL_act_r8, (List.forall_mem_append.mpr ⟨ggL_law_L_act_wsL_act_r9, (List.forall_mem_append.mpr ⟨ggL_law_L_act_wsL_act_r10, (List.forall_mem_append.mpr ⟨ggL_law_L_act_wsL_act_r11, (List.forall_mem_append.mpr ⟨ggL_law_L_act_wsL_act_r12, (List.forall_mem_append.mpr ⟨ggL_law_L_act_wsL_act_r13, (List.forall_mem_append.mpr ⟨ggL_law_L_act_wsL_act_r14, ggL_law_L_act_wsL_act_r15⟩)⟩)⟩)⟩)⟩)⟩)⟩)⟩)⟩)⟩)⟩)⟩)⟩)⟩), ggL_law_L_act_wsX50⟩), ggL_law_L_act_wsX00⟩), ggL_law_L_act_wsX30⟩), ggL_law_L_act_wsX20⟩), ggL_law_L_act_wsX10⟩), ggL_law_L_act_wsX40⟩)⟩

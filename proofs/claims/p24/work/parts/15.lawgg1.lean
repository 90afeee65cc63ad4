set_option maxRecDepth 20000 in
theorem ggL_law_X5_init : GoodIn wsL_law wsX5_init := goodIn_r _ [5, 6, 7, 8, 9, 10, 11, 12, 13, 14, 15, 16, 17, 18, 19, 20, 21, 22, 23, 24, 25, 26, 27, 28, 29, 30, 31, 32, 33, 34, 35, 36, 37, 38, 39, 40, 41, 42, 43, 44, 45, 46, 47, 48, 49, 50, 51, 52, 53, 54, 55, 56, 57, 58, 59, 60, 61, 62, 63, 64, 65, 66, 67, 68, 69, 70, 71, 72, 73, 74, 528, 529, 530, 531, 532, 533, 534, 535, 536, 537, 538, 539, 522, 523, 524, 525, 526, 527, 540, 541, 542, 543, 544, 545, 546, 547, 548, 549, 550] (by decide +kernel) (by decide +kernel)
set_option maxRecDepth 20000 in
theorem gL_law_X5_init : GoodIn wsL_law (wsX5_init) := ggL_law_X5_init
set_option maxRecDepth 20000 in
theorem ggL_law_X5_undo : GoodIn wsL_law wsX5_undo := goodIn_r _ [78, 18, 12, 79, 80, 81, 17, 82, 83, 84, 85, 86, 87, 88, 67, 89, 90, 91, 11, 92, 93, 94, 95, 96, 97, 31, 35, 36, 37, 38, 39, 40, 98, 99, 100, 30, 101, 50, 46, 47, 48, 49, 102, 103, 104, 34, 105, 56, 106, 522, 523, 524, 525, 526, 527, 540, 541, 542, 528, 529, 530, 531, 532, 533, 534, 535, 536, 537, 538, 539, 545, 546, 547, 548, 549, 550] (by decide +kernel) (by decide +kernel)
set_option maxRecDepth 20000 in
theorem gL_law_X5_undo : GoodIn wsL_law (wsV RL 77 RX5 yX5_undo wsX5_undo) := goodIn_app (goodIn_of _ (by decide +kernel)) ggL_law_X5_undo
set_option maxRecDepth 20000 in
theorem ggL_law_X5_restore : GoodIn wsL_law wsX5_restore := goodIn_r _ [110, 23, 18, 12, 14, 111, 112, 113, 17, 114, 83, 84, 115, 116, 117, 118, 85, 86, 87, 88, 67, 89, 90, 91, 11, 92, 93, 94, 95, 96, 97, 31, 35, 36, 37, 38, 39, 40, 98, 99, 100, 30, 101, 50, 46, 47, 48, 49, 102, 103, 104, 34, 105, 56, 106, 119, 120, 121, 122, 123, 124, 125, 126, 127, 522, 523, 524, 525, 526, 527, 540, 541, 542, 528, 529, 530, 531, 532, 533, 534, 535, 536, 537, 538, 539, 545, 546, 547, 548, 549, 550] (by decide +kernel) (by decide +kernel)
set_option maxRecDepth 20000 in
theorem gL_law_X5_restore : GoodIn wsL_law (wsV RL 52 RX5 yX5_restore wsX5_restore) := goodIn_app (goodIn_of _ (by decide +kernel)) ggL_law_X5_restore
set_option maxRecDepth 20000 in
theorem ggL_law_X5_keep : GoodIn wsL_law wsX5_keep := goodIn_r _ [131, 14, 12, 23, 119, 90, 91, 11, 92, 93, 94, 95, 96, 97, 31, 35, 36, 37, 38, 39, 40, 98, 99, 100, 30, 101, 50, 46, 47, 48, 49, 102, 103, 104, 34, 105, 56, 106, 120, 121, 122, 123, 124, 125, 126, 127, 522, 523, 524, 525, 526, 527, 528, 529, 530, 531, 532, 533, 534, 535, 536, 537, 538, 539, 545, 546, 547, 548, 549, 550] (by decide +kernel) (by decide +kernel)
set_option maxRecDepth 20000 in
theorem gL_law_X5_keep : GoodIn wsL_law (wsV RL 80 RX5 yX5_keep wsX5_keep) := goodIn_app (goodIn_of _ (by decide +kernel)) ggL_law_X5_keep
theorem ggL_law_L_told_c : GoodIn wsL_law [.code yL_told cL_told 5 (some .long)] := goodIn_r _ [135] (by decide +kernel) (by decide +kernel)
set_option maxRecDepth 20000 in
theorem ggL_law_L_told_wsL_told_r1 : GoodIn wsL_law wsL_told_r1 := goodIn_r _ [136, 137, 138, 139, 140, 2, 141, 12, 18, 22, 120, 121, 122, 11, 123, 93, 37, 124, 125, 126, 34, 127, 56, 142] (by decide +kernel) (by decide +kernel)
set_option maxRecDepth 20000 in
theorem ggL_law_L_told_wsL_told_r2 : GoodIn wsL_law wsL_told_r2 := goodIn_r _ [143, 144, 30, 145, 50, 48, 146, 147, 117, 148, 149, 150, 151, 152, 153, 154, 116, 118, 155, 156, 157, 158, 31, 159] (by decide +kernel) (by decide +kernel)
set_option maxRecDepth 20000 in
theorem ggL_law_L_told_wsL_told_r3 : GoodIn wsL_law wsL_told_r3 := goodIn_r _ [160, 161, 162, 49, 163, 164, 165, 166, 167, 168, 169, 170, 171, 172, 173, 174, 175, 176, 177, 178, 179, 180, 181, 182] (by decide +kernel) (by decide +kernel)
set_option maxRecDepth 20000 in
theorem ggL_law_L_told_wsL_told_r4 : GoodIn wsL_law wsL_told_r4 := goodIn_r _ [183, 184, 94, 185, 186, 187, 188, 38, 39, 189, 190, 191, 192, 193, 194, 195, 196, 197, 198, 199, 200, 46, 47, 201] (by decide +kernel) (by decide +kernel)
set_option maxRecDepth 20000 in
theorem ggL_law_L_told_wsL_told_r5 : GoodIn wsL_law wsL_told_r5 := goodIn_r _ [202, 203, 204, 205, 206, 207, 208, 209, 210, 211, 212, 213, 214, 215, 216, 217, 218, 219, 220, 221, 222, 223, 224, 225] (by decide +kernel) (by decide +kernel)
set_option maxRecDepth 20000 in
theorem ggL_law_L_told_wsL_told_r6 : GoodIn wsL_law wsL_told_r6 := goodIn_r _ [226, 227, 228, 229, 230, 231, 232, 233, 234, 235, 236, 237, 238, 239, 240, 241, 242, 243, 244, 245, 40, 246, 247, 248] (by decide +kernel) (by decide +kernel)
set_option maxRecDepth 20000 in
theorem ggL_law_L_told_wsL_told_r7 : GoodIn wsL_law wsL_told_r7 := goodIn_r _ [249, 250, 251, 252, 253, 254, 255, 256, 257, 258, 259, 260, 261, 262, 263, 264, 265, 266, 267, 268, 269, 270, 271, 272] (by decide +kernel) (by decide +kernel)
set_option maxRecDepth 20000 in
theorem ggL_law_L_told_wsL_told_r8 : GoodIn wsL_law wsL_told_r8 := goodIn_r _ [273, 274, 275, 276, 277, 278, 279, 280, 281, 282, 283, 284, 285, 286] (by decide +kernel) (by decide +kernel)
set_option maxRecDepth 20000 in
theorem ggL_law_L_told_wsX50 : GoodIn wsL_law wsX50 := goodIn_r _ [522, 523, 524, 525, 526, 527] (by decide +kernel) (by decide +kernel)
set_option maxRecDepth 20000 in
theorem ggL_law_L_told_wsX00 : GoodIn wsL_law wsX00 := goodIn_r _ [528, 529, 530, 531, 532, 533, 534, 535, 536, 537, 538, 539] (by decide +kernel) (by decide +kernel)
set_option maxRecDepth 20000 in
theorem ggL_law_L_told_wsX30 : GoodIn wsL_law wsX30 := goodIn_r _ [545, 546, 547, 548, 549] (by decide +kernel) (by decide +kernel)
set_option maxRecDepth 20000 in
theorem ggL_law_L_told_wsX20 : GoodIn wsL_law wsX20 := goodIn_r _ [540, 541, 542] (by decide +kernel) (by decide +kernel)
set_option maxRecDepth 20000 in
theorem ggL_law_L_told_wsX10 : GoodIn wsL_law wsX10 := goodIn_r _ [543, 544] (by decide +kernel) (by decide +kernel)
set_option maxRecDepth 20000 in
theorem ggL_law_L_told_wsX40 : GoodIn wsL_law wsX40 := goodIn_r _ [550] (by decide +kernel) (by decide +kernel)
theorem ggL_law_L_told : GoodIn wsL_law wsL_told := by
  unfold wsL_told
  exact List.forall_mem_cons.mpr ⟨ggL_law_L_told_c _ List.mem_cons_self, (List.forall_mem_append.mpr ⟨(List.forall_mem_append.mpr ⟨(List.forall_mem_append.mpr ⟨(List.forall_mem_append.mpr ⟨(List.forall_mem_append.mpr ⟨(List.forall_mem_append.mpr ⟨(List.forall_mem_append.mpr ⟨ggL_law_L_told_wsL_told_r1, (List.forall_mem_append.mpr ⟨ggL_law_L_told_wsL_told_r2, (List.forall_mem_append.mpr ⟨ggL_law_L_told_wsL_told_r3, (List.forall_mem_append.mpr ⟨ggL_law_L_told_wsL_told_r4, (List.forall_mem_append.mpr ⟨ggL_law_L_told_wsL_told_r5, (List.forall_mem_append.mpr ⟨ggL_law_L_told_wsL_told_r6, (List.forall_mem_append.mpr ⟨ggL_law_L_told_wsL_told_r7, ggL_law_L_told_wsL_told_r8⟩)⟩)⟩)⟩)⟩)⟩)⟩), ggL_law_L_told_wsX50⟩), ggL_law_L_told_wsX00⟩), ggL_law_L_told_wsX30⟩), ggL_law_L_told_wsX20⟩), ggL_law_L_told_wsX10⟩), ggL_law_L_told_wsX40⟩)⟩

set_option maxRecDepth 20000 in
theorem gL_law_L_act : GoodIn wsL_law (va_wsS RL 91 yL_act wsL_act) := goodIn_app (goodIn_of _ (by decide +kernel)) ggL_law_L_act
theorem ggL_law_L_holds_c : GoodIn wsL_law [.code yL_holds cL_holds 14 (some .boolean)] := goodIn_r _ [480] (by decide +kernel) (by decide +kernel)
set_option maxRecDepth 20000 in
theorem ggL_law_L_holds_wsL_holds_r1 : GoodIn wsL_law wsL_holds_r1 := goodIn_r _ [138, 139, 140, 2, 141, 12, 18, 22, 120, 121, 122, 11, 123, 93, 37, 124, 125, 126, 34, 127, 56, 142, 143, 144] (by decide +kernel) (by decide +kernel)
set_option maxRecDepth 20000 in
theorem ggL_law_L_holds_wsL_holds_r2 : GoodIn wsL_law wsL_holds_r2 := goodIn_r _ [30, 145, 50, 48, 146, 147, 117, 148, 149, 150, 151, 152, 153, 154, 116, 118, 155, 156, 157, 158, 31, 159, 160, 161] (by decide +kernel) (by decide +kernel)
set_option maxRecDepth 20000 in
theorem ggL_law_L_holds_wsL_holds_r3 : GoodIn wsL_law wsL_holds_r3 := goodIn_r _ [162, 49, 163, 164, 165, 166, 167, 168, 169, 170, 171, 172, 173, 174, 175, 176, 177, 178, 179, 180, 181, 182, 183, 184] (by decide +kernel) (by decide +kernel)
set_option maxRecDepth 20000 in
theorem ggL_law_L_holds_wsL_holds_r4 : GoodIn wsL_law wsL_holds_r4 := goodIn_r _ [94, 185, 186, 187, 188, 38, 39, 189, 190, 191, 192, 193, 194, 195, 196, 197, 198, 199, 200, 46, 47, 201, 202, 203] (by decide +kernel) (by decide +kernel)
set_option maxRecDepth 20000 in
theorem ggL_law_L_holds_wsL_holds_r5 : GoodIn wsL_law wsL_holds_r5 := goodIn_r _ [204, 205, 206, 207, 208, 209, 210, 211, 212, 213, 214, 215, 216, 217, 218, 219, 220, 221, 222, 223, 224, 225, 226, 227] (by decide +kernel) (by decide +kernel)
set_option maxRecDepth 20000 in
theorem ggL_law_L_holds_wsL_holds_r6 : GoodIn wsL_law wsL_holds_r6 := goodIn_r _ [228, 229, 230, 231, 232, 233, 234, 235, 236, 237, 238, 239, 240, 241, 242, 243, 244, 245, 40, 246, 247, 248, 249, 250] (by decide +kernel) (by decide +kernel)
set_option maxRecDepth 20000 in
theorem ggL_law_L_holds_wsL_holds_r7 : GoodIn wsL_law wsL_holds_r7 := goodIn_r _ [481, 482, 483, 484, 301, 302, 303, 408, 409, 310, 311, 312, 485, 486, 487, 269, 270, 271, 272, 267, 268, 488, 489, 490] (by decide +kernel) (by decide +kernel)
set_option maxRecDepth 20000 in
theorem ggL_law_L_holds_wsL_holds_r8 : GoodIn wsL_law wsL_holds_r8 := goodIn_r _ [491, 492, 493, 251, 252, 253, 254, 255, 256, 257, 258, 259, 260, 261, 262, 263, 264, 265, 266, 494, 495, 496, 497, 498] (by decide +kernel) (by decide +kernel)
set_option maxRecDepth 20000 in
theorem ggL_law_L_holds_wsL_holds_r9 : GoodIn wsL_law wsL_holds_r9 := goodIn_r _ [499, 500, 501, 35, 36, 308, 319, 502, 503, 504, 505, 506, 507, 508, 509, 510, 511, 512, 513, 514, 515, 516, 293, 294] (by decide +kernel) (by decide +kernel)
set_option maxRecDepth 20000 in
theorem ggL_law_L_holds_wsL_holds_r10 : GoodIn wsL_law wsL_holds_r10 := goodIn_r _ [134, 295, 296, 517, 518, 519, 520, 521] (by decide +kernel) (by decide +kernel)
set_option maxRecDepth 20000 in
theorem ggL_law_L_holds_wsX50 : GoodIn wsL_law wsX50 := goodIn_r _ [522, 523, 524, 525, 526, 527] (by decide +kernel) (by decide +kernel)
set_option maxRecDepth 20000 in
theorem ggL_law_L_holds_wsX00 : GoodIn wsL_law wsX00 := goodIn_r _ [528, 529, 530, 531, 532, 533, 534, 535, 536, 537, 538, 539] (by decide +kernel) (by decide +kernel)
set_option maxRecDepth 20000 in
theorem ggL_law_L_holds_wsX30 : GoodIn wsL_law wsX30 := goodIn_r _ [545, 546, 547, 548, 549] (by decide +kernel) (by decide +kernel)
set_option maxRecDepth 20000 in
theorem ggL_law_L_holds_wsX20 : GoodIn wsL_law wsX20 := goodIn_r _ [540, 541, 542] (by decide +kernel) (by decide +kernel)
set_option maxRecDepth 20000 in
theorem ggL_law_L_holds_wsX10 : GoodIn wsL_law wsX10 := goodIn_r _ [543, 544] (by decide +kernel) (by decide +kernel)
set_option maxRecDepth 20000 in
theorem ggL_law_L_holds_wsX40 : GoodIn wsL_law wsX40 := goodIn_r _ [550] (by decide +kernel) (by decide +kernel)
theorem ggL_law_L_holds : GoodIn wsL_law wsL_holds := by
  unfold wsL_holds
  exact List.forall_mem_cons.mpr ⟨ggL_law_L_holds_c _ List.mem_cons_self, (List.forall_mem_append.mpr ⟨(List.forall_mem_append.mpr ⟨(List.forall_mem_append.mpr ⟨(List.forall_mem_append.mpr ⟨(List.forall_mem_append.mpr ⟨(List.forall_mem_append.mpr ⟨(List.forall_mem_append.mpr ⟨ggL_law_L_holds_wsL_holds_r1, (List.forall_mem_append.mpr ⟨ggL_law_L_holds_wsL_holds_r2, (List.forall_mem_append.mpr ⟨ggL_law_L_holds_wsL_holds_r3, (List.forall_mem_append.mpr ⟨ggL_law_L_holds_wsL_holds_r4, (List.forall_mem_append.mpr ⟨ggL_law_L_holds_wsL_holds_r5, (List.forall_mem_append.mpr ⟨ggL_law_L_holds_wsL_holds_r6, (List.forall_mem_append.mpr ⟨ggL_law_L_holds_wsL_holds_r7, (List.forall_mem_append.mpr ⟨ggL_law_L_holds_wsL_holds_r8, (List.forall_mem_append.mpr ⟨ggL_law_L_holds_wsL_holds_r9, ggL_law_L_holds_wsL_holds_r10⟩)⟩)⟩)⟩)⟩)⟩)⟩)⟩)⟩), ggL_law_L_holds_wsX50⟩), ggL_law_L_holds_wsX00⟩), ggL_law_L_holds_wsX30⟩), ggL_law_L_holds_wsX20⟩), ggL_law_L_holds_wsX10⟩), ggL_law_L_holds_wsX40⟩)⟩

set_option maxRecDepth 20000 in
theorem gL_holds_X5_camper : GoodIn wsL_holds (wsV RL 18 RX5 yX5_camper wsX5_camper) := goodIn_app (goodIn_of _ (by decide +kernel)) ggL_holds_X5_camper
set_option maxRecDepth 20000 in
theorem ggL_holds_X5_plot : GoodIn wsL_holds wsX5_plot := goodIn_r _ [148, 6, 149, 150, 4, 151, 152, 85, 86, 25, 87, 27, 88, 89, 90, 91, 92, 93, 28, 33, 17, 18, 19, 20, 21, 65, 66, 67, 68, 153, 154, 155, 156, 50, 157, 158, 159, 160, 161, 162, 163, 164, 107, 108, 109, 165, 115, 116, 117, 166, 111, 112, 113, 167, 119, 120, 121, 168, 169, 170, 171, 102, 103, 104, 105, 106, 110, 114, 118, 225, 226, 227, 228, 229, 230, 231, 232, 233, 234, 235, 236, 237, 238, 239, 240, 241, 242, 243, 244, 245, 246, 247, 253] (by decide +kernel) (by decide +kernel)
set_option maxRecDepth 20000 in
theorem gL_holds_X5_plot : GoodIn wsL_holds (wsV RL 66 RX5 yX5_plot wsX5_plot) := goodIn_app (goodIn_of _ (by decide +kernel)) ggL_holds_X5_plot
set_option maxRecDepth 20000 in
theorem ggL_holds_X5_plotOf : GoodIn wsL_holds wsX5_plotOf := goodIn_r _ [175, 6, 55, 56, 57, 12, 58, 14, 15, 16, 17, 18, 19, 20, 21, 176, 177, 178, 25, 179, 27, 50, 33, 180, 181, 182, 183, 184, 185, 186, 187, 92, 93, 164, 107, 108, 109, 165, 115, 116, 117, 160, 161, 162, 163, 28, 225, 226, 227, 228, 229, 230, 231, 232, 233, 234, 235, 236, 237, 238, 239, 240, 241, 242, 253, 243, 244, 245, 246, 247] (by decide +kernel) (by decide +kernel)
set_option maxRecDepth 20000 in
theorem gL_holds_X5_plotOf : GoodIn wsL_holds (wsV RL 22 RX5 yX5_plotOf wsX5_plotOf) := goodIn_app (goodIn_of _ (by decide +kernel)) ggL_holds_X5_plotOf
set_option maxRecDepth 20000 in
theorem ggL_holds_X5_way : GoodIn wsL_holds wsX5_way := goodIn_r _ [191, 6, 55, 56, 57, 12, 58, 14, 15, 16, 17, 18, 19, 20, 21, 149, 150, 4, 151, 192, 193, 194, 195, 45, 196, 197, 198, 85, 86, 25, 87, 27, 88, 89, 90, 91, 92, 93, 28, 33, 65, 66, 67, 68, 199, 200, 201, 202, 203, 102, 103, 104, 105, 106, 107, 108, 109, 110, 111, 112, 113, 114, 115, 116, 117, 118, 119, 120, 121, 204, 205, 206, 207, 208, 209, 210, 211, 212, 213, 214, 184, 185, 186, 187, 153, 154, 155, 156, 50, 164, 165, 225, 226, 227, 228, 229, 230, 231, 232, 233, 234, 235, 236, 237, 238, 239, 240, 241, 242, 253, 243, 244, 245, 246, 247] (by decide +kernel) (by decide +kernel)
set_option maxRecDepth 20000 in
theorem gL_holds_X5_way : GoodIn wsL_holds (wsV RL 69 RX5 yX5_way wsX5_way) := goodIn_app (goodIn_of _ (by decide +kernel)) ggL_holds_X5_way
set_option maxRecDepth 20000 in
theorem ggL_holds_L_low : GoodIn wsL_holds wsL_low := goodIn_r _ [218, 219] (by decide +kernel) (by decide +kernel)
set_option maxRecDepth 20000 in
theorem gL_holds_L_low : GoodIn wsL_holds (va_wsS RL 29 yL_low wsL_low) := goodIn_app (goodIn_of _ (by decide +kernel)) ggL_holds_L_low
set_option maxRecDepth 20000 in
theorem ggL_holds_X5_loudest : GoodIn wsL_holds wsX5_loudest := goodIn_r _ [223, 224, 6, 55, 56, 57, 12, 58, 14, 15, 16, 17, 18, 19, 20, 21, 131, 132, 133, 134, 73, 74, 75, 76, 77, 45, 78, 79, 80, 81, 82, 25, 83, 50, 84, 85, 86, 87, 27, 88, 89, 90, 91, 92, 93, 28, 33, 65, 4, 66, 67, 68, 135, 136, 137, 138, 139, 140, 225, 226, 227, 228, 229, 230, 231, 232, 233, 234, 235, 236, 237, 238, 239, 240, 241, 242, 253, 243, 244, 245, 246, 247] (by decide +kernel) (by decide +kernel)
set_option maxRecDepth 20000 in
theorem gL_holds_X5_loudest : GoodIn wsL_holds (wsV RL 73 RX5 yX5_loudest wsX5_loudest) := goodIn_app (goodIn_of _ (by decide +kernel)) ggL_holds_X5_loudest
theorem dL_holds_0 : decode cL_holds 0 = .ok (.iconst 0, 1) := by decide +kernel
theorem dL_holds_1 : decode cL_holds 1 = .ok (.istore_n 2, 1) := by decide +kernel
theorem dL_holds_2 : decode cL_holds 2 = .ok (.iconst 0, 1) := by decide +kernel
theorem dL_holds_3 : decode cL_holds 3 = .ok (.istore_n 3, 1) := by decide +kernel
theorem dL_holds_4 : decode cL_holds 4 = .ok (.iconst 0, 1) := by decide +kernel
theorem dL_holds_5 : decode cL_holds 5 = .ok (.istore 4, 2) := by decide +kernel
theorem dL_holds_7 : decode cL_holds 7 = .ok (.iconst 0, 1) := by decide +kernel
theorem dL_holds_8 : decode cL_holds 8 = .ok (.istore 5, 2) := by decide +kernel
theorem dL_holds_10 : decode cL_holds 10 = .ok (.iconst 0, 1) := by decide +kernel
theorem dL_holds_11 : decode cL_holds 11 = .ok (.istore 6, 2) := by decide +kernel
theorem dL_holds_13 : decode cL_holds 13 = .ok (.iconst 0, 1) := by decide +kernel
theorem dL_holds_14 : decode cL_holds 14 = .ok (.istore 7, 2) := by decide +kernel
theorem dL_holds_16 : decode cL_holds 16 = .ok (.iload 7, 2) := by decide +kernel
theorem dL_holds_18 : decode cL_holds 18 = .ok (.aload_n 0, 1) := by decide +kernel
theorem dL_holds_19 : decode cL_holds 19 = .ok (.iconst 1, 1) := by decide +kernel
theorem dL_holds_20 : decode cL_holds 20 = .ok (.invokevirtual 12, 3) := by decide +kernel
theorem dL_holds_23 : decode cL_holds 23 = .ok (.if_icmp .ge 160, 3) := by decide +kernel
theorem dL_holds_26 : decode cL_holds 26 = .ok (.aload_n 0, 1) := by decide +kernel
theorem dL_holds_27 : decode cL_holds 27 = .ok (.iload 7, 2) := by decide +kernel
theorem dL_holds_29 : decode cL_holds 29 = .ok (.iconst 2, 1) := by decide +kernel
theorem dL_holds_30 : decode cL_holds 30 = .ok (.invokevirtual 18, 3) := by decide +kernel
theorem dL_holds_33 : decode cL_holds 33 = .ok (.istore 8, 2) := by decide +kernel
theorem dL_holds_35 : decode cL_holds 35 = .ok (.iload 8, 2) := by decide +kernel
theorem dL_holds_37 : decode cL_holds 37 = .ok (.iconst (-1), 1) := by decide +kernel
theorem dL_holds_38 : decode cL_holds 38 = .ok (.if_icmp .eq 139, 3) := by decide +kernel
theorem dL_holds_41 : decode cL_holds 41 = .ok (.iinc 3 1, 3) := by decide +kernel
theorem dL_holds_44 : decode cL_holds 44 = .ok (.iload_n 2, 1) := by decide +kernel
theorem dL_holds_45 : decode cL_holds 45 = .ok (.aload_n 0, 1) := by decide +kernel
theorem dL_holds_46 : decode cL_holds 46 = .ok (.iload 7, 2) := by decide +kernel
theorem dL_holds_48 : decode cL_holds 48 = .ok (.iconst 3, 1) := by decide +kernel
theorem dL_holds_49 : decode cL_holds 49 = .ok (.invokevirtual 18, 3) := by decide +kernel
theorem dL_holds_52 : decode cL_holds 52 = .ok (.iadd, 1) := by decide +kernel
theorem dL_holds_53 : decode cL_holds 53 = .ok (.istore_n 2, 1) := by decide +kernel
theorem dL_holds_54 : decode cL_holds 54 = .ok (.iload 4, 2) := by decide +kernel
theorem dL_holds_56 : decode cL_holds 56 = .ok (.iload 8, 2) := by decide +kernel
theorem dL_holds_58 : decode cL_holds 58 = .ok (.iadd, 1) := by decide +kernel
theorem dL_holds_59 : decode cL_holds 59 = .ok (.istore 4, 2) := by decide +kernel
theorem dL_holds_61 : decode cL_holds 61 = .ok (.iload 5, 2) := by decide +kernel
theorem dL_holds_63 : decode cL_holds 63 = .ok (.aload_n 0, 1) := by decide +kernel
theorem dL_holds_64 : decode cL_holds 64 = .ok (.iload 7, 2) := by decide +kernel
theorem dL_holds_66 : decode cL_holds 66 = .ok (.iconst 4, 1) := by decide +kernel
theorem dL_holds_67 : decode cL_holds 67 = .ok (.invokevirtual 18, 3) := by decide +kernel
theorem dL_holds_70 : decode cL_holds 70 = .ok (.iadd, 1) := by decide +kernel
theorem dL_holds_71 : decode cL_holds 71 = .ok (.istore 5, 2) := by decide +kernel
theorem dL_holds_73 : decode cL_holds 73 = .ok (.iload 6, 2) := by decide +kernel
theorem dL_holds_75 : decode cL_holds 75 = .ok (.iload 8, 2) := by decide +kernel
theorem dL_holds_77 : decode cL_holds 77 = .ok (.iconst 1, 1) := by decide +kernel
theorem dL_holds_78 : decode cL_holds 78 = .ok (.if_icmp .le 7, 3) := by decide +kernel
theorem dL_holds_81 : decode cL_holds 81 = .ok (.iconst 1, 1) := by decide +kernel
theorem dL_holds_82 : decode cL_holds 82 = .ok (.goto 4, 3) := by decide +kernel
theorem dL_holds_85 : decode cL_holds 85 = .ok (.iconst 0, 1) := by decide +kernel
theorem dL_holds_86 : decode cL_holds 86 = .ok (.iadd, 1) := by decide +kernel
theorem dL_holds_87 : decode cL_holds 87 = .ok (.istore 6, 2) := by decide +kernel
theorem dL_holds_89 : decode cL_holds 89 = .ok (.iload 8, 2) := by decide +kernel
theorem dL_holds_91 : decode cL_holds 91 = .ok (.iconst 1, 1) := by decide +kernel
theorem dL_holds_92 : decode cL_holds 92 = .ok (.if_icmp .lt 83, 3) := by decide +kernel
theorem dL_holds_95 : decode cL_holds 95 = .ok (.aload_n 0, 1) := by decide +kernel
theorem dL_holds_96 : decode cL_holds 96 = .ok (.aload_n 0, 1) := by decide +kernel
theorem dL_holds_97 : decode cL_holds 97 = .ok (.iload 7, 2) := by decide +kernel
theorem dL_holds_99 : decode cL_holds 99 = .ok (.iconst 0, 1) := by decide +kernel
theorem dL_holds_100 : decode cL_holds 100 = .ok (.invokevirtual 18, 3) := by decide +kernel
theorem dL_holds_103 : decode cL_holds 103 = .ok (.aload_n 0, 1) := by decide +kernel
theorem dL_holds_104 : decode cL_holds 104 = .ok (.iload 7, 2) := by decide +kernel
theorem dL_holds_106 : decode cL_holds 106 = .ok (.iconst 1, 1) := by decide +kernel
theorem dL_holds_107 : decode cL_holds 107 = .ok (.invokevirtual 18, 3) := by decide +kernel
theorem dL_holds_110 : decode cL_holds 110 = .ok (.iconst 0, 1) := by decide +kernel
theorem dL_holds_111 : decode cL_holds 111 = .ok (.invokevirtual 66, 3) := by decide +kernel
theorem dL_holds_114 : decode cL_holds 114 = .ok (.iload 7, 2) := by decide +kernel
theorem dL_holds_116 : decode cL_holds 116 = .ok (.if_icmp .ne 59, 3) := by decide +kernel
theorem dL_holds_119 : decode cL_holds 119 = .ok (.aload_n 0, 1) := by decide +kernel
theorem dL_holds_120 : decode cL_holds 120 = .ok (.iload 7, 2) := by decide +kernel
theorem dL_holds_122 : decode cL_holds 122 = .ok (.iconst 5, 1) := by decide +kernel
theorem dL_holds_123 : decode cL_holds 123 = .ok (.invokevirtual 18, 3) := by decide +kernel
theorem dL_holds_126 : decode cL_holds 126 = .ok (.aload_n 0, 1) := by decide +kernel
theorem dL_holds_127 : decode cL_holds 127 = .ok (.iconst 0, 1) := by decide +kernel
theorem dL_holds_128 : decode cL_holds 128 = .ok (.invokevirtual 12, 3) := by decide +kernel
theorem dL_holds_131 : decode cL_holds 131 = .ok (.if_icmp .ge 44, 3) := by decide +kernel
theorem dL_holds_134 : decode cL_holds 134 = .ok (.aload_n 0, 1) := by decide +kernel
theorem dL_holds_135 : decode cL_holds 135 = .ok (.iload 7, 2) := by decide +kernel
theorem dL_holds_137 : decode cL_holds 137 = .ok (.iload 8, 2) := by decide +kernel
theorem dL_holds_139 : decode cL_holds 139 = .ok (.iconst 0, 1) := by decide +kernel
theorem dL_holds_140 : decode cL_holds 140 = .ok (.invokevirtual 22, 3) := by decide +kernel
theorem dL_holds_143 : decode cL_holds 143 = .ok (.bipush (-5), 2) := by decide +kernel
theorem dL_holds_145 : decode cL_holds 145 = .ok (.if_icmp .ne 30, 3) := by decide +kernel
theorem dL_holds_148 : decode cL_holds 148 = .ok (.aload_n 0, 1) := by decide +kernel
theorem dL_holds_149 : decode cL_holds 149 = .ok (.iload 7, 2) := by decide +kernel
theorem dL_holds_151 : decode cL_holds 151 = .ok (.aload_n 0, 1) := by decide +kernel
theorem dL_holds_152 : decode cL_holds 152 = .ok (.iload 7, 2) := by decide +kernel
theorem dL_holds_154 : decode cL_holds 154 = .ok (.iconst 0, 1) := by decide +kernel
theorem dL_holds_155 : decode cL_holds 155 = .ok (.invokevirtual 18, 3) := by decide +kernel
theorem dL_holds_158 : decode cL_holds 158 = .ok (.aload_n 0, 1) := by decide +kernel
theorem dL_holds_159 : decode cL_holds 159 = .ok (.iload 7, 2) := by decide +kernel
theorem dL_holds_161 : decode cL_holds 161 = .ok (.iconst 1, 1) := by decide +kernel
theorem dL_holds_162 : decode cL_holds 162 = .ok (.invokevirtual 18, 3) := by decide +kernel
theorem dL_holds_165 : decode cL_holds 165 = .ok (.iconst 1, 1) := by decide +kernel
theorem dL_holds_166 : decode cL_holds 166 = .ok (.iconst 0, 1) := by decide +kernel
theorem dL_holds_167 : decode cL_holds 167 = .ok (.invokevirtual 69, 3) := by decide +kernel
theorem dL_holds_170 : decode cL_holds 170 = .ok (.bipush (-5), 2) := by decide +kernel
theorem dL_holds_172 : decode cL_holds 172 = .ok (.if_icmp .eq 5, 3) := by decide +kernel
theorem dL_holds_175 : decode cL_holds 175 = .ok (.iconst 0, 1) := by decide +kernel
theorem dL_holds_176 : decode cL_holds 176 = .ok (.ireturn, 1) := by decide +kernel
theorem dL_holds_177 : decode cL_holds 177 = .ok (.iinc 7 1, 3) := by decide +kernel
theorem dL_holds_180 : decode cL_holds 180 = .ok (.goto (-164), 3) := by decide +kernel
theorem dL_holds_183 : decode cL_holds 183 = .ok (.iload_n 1, 1) := by decide +kernel
theorem dL_holds_184 : decode cL_holds 184 = .ok (.bipush 64, 2) := by decide +kernel
theorem dL_holds_186 : decode cL_holds 186 = .ok (.invokestatic 29, 3) := by decide +kernel
theorem dL_holds_189 : decode cL_holds 189 = .ok (.istore 7, 2) := by decide +kernel
theorem dL_holds_191 : decode cL_holds 191 = .ok (.iload_n 1, 1) := by decide +kernel
theorem dL_holds_192 : decode cL_holds 192 = .ok (.bipush 6, 2) := by decide +kernel
theorem dL_holds_194 : decode cL_holds 194 = .ok (.ishr, 1) := by decide +kernel
theorem dL_holds_195 : decode cL_holds 195 = .ok (.bipush 64, 2) := by decide +kernel
theorem dL_holds_197 : decode cL_holds 197 = .ok (.invokestatic 29, 3) := by decide +kernel
theorem dL_holds_200 : decode cL_holds 200 = .ok (.istore 8, 2) := by decide +kernel
theorem dL_holds_202 : decode cL_holds 202 = .ok (.aload_n 0, 1) := by decide +kernel
theorem dL_holds_203 : decode cL_holds 203 = .ok (.iload 7, 2) := by decide +kernel
theorem dL_holds_205 : decode cL_holds 205 = .ok (.iload 8, 2) := by decide +kernel
theorem dL_holds_207 : decode cL_holds 207 = .ok (.iconst 1, 1) := by decide +kernel
theorem dL_holds_208 : decode cL_holds 208 = .ok (.invokevirtual 66, 3) := by decide +kernel
theorem dL_holds_211 : decode cL_holds 211 = .ok (.istore 9, 2) := by decide +kernel
theorem dL_holds_213 : decode cL_holds 213 = .ok (.aload_n 0, 1) := by decide +kernel
theorem dL_holds_214 : decode cL_holds 214 = .ok (.iload 7, 2) := by decide +kernel
theorem dL_holds_216 : decode cL_holds 216 = .ok (.iload 8, 2) := by decide +kernel
theorem dL_holds_218 : decode cL_holds 218 = .ok (.iconst 4, 1) := by decide +kernel
theorem dL_holds_219 : decode cL_holds 219 = .ok (.invokevirtual 66, 3) := by decide +kernel
theorem dL_holds_222 : decode cL_holds 222 = .ok (.aload_n 0, 1) := by decide +kernel
theorem dL_holds_223 : decode cL_holds 223 = .ok (.iload 7, 2) := by decide +kernel
theorem dL_holds_225 : decode cL_holds 225 = .ok (.iload 8, 2) := by decide +kernel
theorem dL_holds_227 : decode cL_holds 227 = .ok (.iconst 2, 1) := by decide +kernel
theorem dL_holds_228 : decode cL_holds 228 = .ok (.invokevirtual 66, 3) := by decide +kernel
theorem dL_holds_231 : decode cL_holds 231 = .ok (.isub, 1) := by decide +kernel
theorem dL_holds_232 : decode cL_holds 232 = .ok (.iconst 1, 1) := by decide +kernel
theorem dL_holds_233 : decode cL_holds 233 = .ok (.iadd, 1) := by decide +kernel
theorem dL_holds_234 : decode cL_holds 234 = .ok (.istore 10, 2) := by decide +kernel
theorem dL_holds_236 : decode cL_holds 236 = .ok (.aload_n 0, 1) := by decide +kernel
theorem dL_holds_237 : decode cL_holds 237 = .ok (.iload 7, 2) := by decide +kernel
theorem dL_holds_239 : decode cL_holds 239 = .ok (.iload 8, 2) := by decide +kernel
theorem dL_holds_241 : decode cL_holds 241 = .ok (.iconst 5, 1) := by decide +kernel
theorem dL_holds_242 : decode cL_holds 242 = .ok (.invokevirtual 66, 3) := by decide +kernel
theorem dL_holds_245 : decode cL_holds 245 = .ok (.aload_n 0, 1) := by decide +kernel
theorem dL_holds_246 : decode cL_holds 246 = .ok (.iload 7, 2) := by decide +kernel
theorem dL_holds_248 : decode cL_holds 248 = .ok (.iload 8, 2) := by decide +kernel
theorem dL_holds_250 : decode cL_holds 250 = .ok (.iconst 3, 1) := by decide +kernel
theorem dL_holds_251 : decode cL_holds 251 = .ok (.invokevirtual 66, 3) := by decide +kernel
theorem dL_holds_254 : decode cL_holds 254 = .ok (.isub, 1) := by decide +kernel
theorem dL_holds_255 : decode cL_holds 255 = .ok (.iconst 1, 1) := by decide +kernel
theorem dL_holds_256 : decode cL_holds 256 = .ok (.iadd, 1) := by decide +kernel
theorem dL_holds_257 : decode cL_holds 257 = .ok (.istore 11, 2) := by decide +kernel
theorem dL_holds_259 : decode cL_holds 259 = .ok (.iload 10, 2) := by decide +kernel
theorem dL_holds_261 : decode cL_holds 261 = .ok (.iload 11, 2) := by decide +kernel
theorem dL_holds_263 : decode cL_holds 263 = .ok (.imul, 1) := by decide +kernel
theorem dL_holds_264 : decode cL_holds 264 = .ok (.sipush 4096, 3) := by decide +kernel
theorem dL_holds_267 : decode cL_holds 267 = .ok (.iload 9, 2) := by decide +kernel
theorem dL_holds_269 : decode cL_holds 269 = .ok (.ishr, 1) := by decide +kernel
theorem dL_holds_270 : decode cL_holds 270 = .ok (.if_icmp .ne 79, 3) := by decide +kernel
theorem dL_holds_273 : decode cL_holds 273 = .ok (.iload 10, 2) := by decide +kernel
theorem dL_holds_275 : decode cL_holds 275 = .ok (.iload 11, 2) := by decide +kernel
theorem dL_holds_277 : decode cL_holds 277 = .ok (.if_icmp .eq 12, 3) := by decide +kernel
theorem dL_holds_280 : decode cL_holds 280 = .ok (.iconst 2, 1) := by decide +kernel
theorem dL_holds_281 : decode cL_holds 281 = .ok (.iload 10, 2) := by decide +kernel
theorem dL_holds_283 : decode cL_holds 283 = .ok (.imul, 1) := by decide +kernel
theorem dL_holds_284 : decode cL_holds 284 = .ok (.iload 11, 2) := by decide +kernel
theorem dL_holds_286 : decode cL_holds 286 = .ok (.if_icmp .ne 63, 3) := by decide +kernel
theorem dL_holds_289 : decode cL_holds 289 = .ok (.iload 7, 2) := by decide +kernel
theorem dL_holds_291 : decode cL_holds 291 = .ok (.aload_n 0, 1) := by decide +kernel
theorem dL_holds_292 : decode cL_holds 292 = .ok (.iload 7, 2) := by decide +kernel
theorem dL_holds_294 : decode cL_holds 294 = .ok (.iload 8, 2) := by decide +kernel
theorem dL_holds_296 : decode cL_holds 296 = .ok (.iconst 2, 1) := by decide +kernel
theorem dL_holds_297 : decode cL_holds 297 = .ok (.invokevirtual 66, 3) := by decide +kernel
theorem dL_holds_300 : decode cL_holds 300 = .ok (.if_icmp .lt 49, 3) := by decide +kernel
theorem dL_holds_303 : decode cL_holds 303 = .ok (.iload 7, 2) := by decide +kernel
theorem dL_holds_305 : decode cL_holds 305 = .ok (.aload_n 0, 1) := by decide +kernel
theorem dL_holds_306 : decode cL_holds 306 = .ok (.iload 7, 2) := by decide +kernel
theorem dL_holds_308 : decode cL_holds 308 = .ok (.iload 8, 2) := by decide +kernel
theorem dL_holds_310 : decode cL_holds 310 = .ok (.iconst 4, 1) := by decide +kernel
theorem dL_holds_311 : decode cL_holds 311 = .ok (.invokevirtual 66, 3) := by decide +kernel
theorem dL_holds_314 : decode cL_holds 314 = .ok (.if_icmp .gt 35, 3) := by decide +kernel
theorem dL_holds_317 : decode cL_holds 317 = .ok (.iload 8, 2) := by decide +kernel
theorem dL_holds_319 : decode cL_holds 319 = .ok (.aload_n 0, 1) := by decide +kernel
theorem dL_holds_320 : decode cL_holds 320 = .ok (.iload 7, 2) := by decide +kernel
theorem dL_holds_322 : decode cL_holds 322 = .ok (.iload 8, 2) := by decide +kernel
theorem dL_holds_324 : decode cL_holds 324 = .ok (.iconst 3, 1) := by decide +kernel
theorem dL_holds_325 : decode cL_holds 325 = .ok (.invokevirtual 66, 3) := by decide +kernel
theorem dL_holds_328 : decode cL_holds 328 = .ok (.if_icmp .lt 21, 3) := by decide +kernel
theorem dL_holds_331 : decode cL_holds 331 = .ok (.iload 8, 2) := by decide +kernel
theorem dL_holds_333 : decode cL_holds 333 = .ok (.aload_n 0, 1) := by decide +kernel
theorem dL_holds_334 : decode cL_holds 334 = .ok (.iload 7, 2) := by decide +kernel
theorem dL_holds_336 : decode cL_holds 336 = .ok (.iload 8, 2) := by decide +kernel
theorem dL_holds_338 : decode cL_holds 338 = .ok (.iconst 5, 1) := by decide +kernel
theorem dL_holds_339 : decode cL_holds 339 = .ok (.invokevirtual 66, 3) := by decide +kernel
theorem dL_holds_342 : decode cL_holds 342 = .ok (.if_icmp .gt 7, 3) := by decide +kernel
theorem dL_holds_345 : decode cL_holds 345 = .ok (.iconst 1, 1) := by decide +kernel
theorem dL_holds_346 : decode cL_holds 346 = .ok (.goto 4, 3) := by decide +kernel
theorem dL_holds_349 : decode cL_holds 349 = .ok (.iconst 0, 1) := by decide +kernel
theorem dL_holds_350 : decode cL_holds 350 = .ok (.istore 12, 2) := by decide +kernel
theorem dL_holds_352 : decode cL_holds 352 = .ok (.iload_n 3, 1) := by decide +kernel
theorem dL_holds_353 : decode cL_holds 353 = .ok (.ifCond .ne 43, 3) := by decide +kernel
theorem dL_holds_356 : decode cL_holds 356 = .ok (.aload_n 0, 1) := by decide +kernel
theorem dL_holds_357 : decode cL_holds 357 = .ok (.iconst 2, 1) := by decide +kernel
theorem dL_holds_358 : decode cL_holds 358 = .ok (.invokevirtual 12, 3) := by decide +kernel
theorem dL_holds_361 : decode cL_holds 361 = .ok (.iconst 1, 1) := by decide +kernel
theorem dL_holds_362 : decode cL_holds 362 = .ok (.if_icmp .ne 30, 3) := by decide +kernel
theorem dL_holds_365 : decode cL_holds 365 = .ok (.aload_n 0, 1) := by decide +kernel
theorem dL_holds_366 : decode cL_holds 366 = .ok (.iload 7, 2) := by decide +kernel
theorem dL_holds_368 : decode cL_holds 368 = .ok (.iload 8, 2) := by decide +kernel
theorem dL_holds_370 : decode cL_holds 370 = .ok (.iconst 0, 1) := by decide +kernel
theorem dL_holds_371 : decode cL_holds 371 = .ok (.invokevirtual 66, 3) := by decide +kernel
theorem dL_holds_374 : decode cL_holds 374 = .ok (.bipush (-5), 2) := by decide +kernel
theorem dL_holds_376 : decode cL_holds 376 = .ok (.if_icmp .ne 16, 3) := by decide +kernel
theorem dL_holds_379 : decode cL_holds 379 = .ok (.aload_n 0, 1) := by decide +kernel
theorem dL_holds_380 : decode cL_holds 380 = .ok (.invokevirtual 73, 3) := by decide +kernel
theorem dL_holds_383 : decode cL_holds 383 = .ok (.bipush (-5), 2) := by decide +kernel
theorem dL_holds_385 : decode cL_holds 385 = .ok (.if_icmp .ne 7, 3) := by decide +kernel
theorem dL_holds_388 : decode cL_holds 388 = .ok (.iconst 1, 1) := by decide +kernel
theorem dL_holds_389 : decode cL_holds 389 = .ok (.goto 39, 3) := by decide +kernel
theorem dL_holds_392 : decode cL_holds 392 = .ok (.iconst 0, 1) := by decide +kernel
theorem dL_holds_393 : decode cL_holds 393 = .ok (.goto 35, 3) := by decide +kernel
theorem dL_holds_396 : decode cL_holds 396 = .ok (.iload_n 2, 1) := by decide +kernel
theorem dL_holds_397 : decode cL_holds 397 = .ok (.sipush 4096, 3) := by decide +kernel
theorem dL_holds_400 : decode cL_holds 400 = .ok (.if_icmp .ne 27, 3) := by decide +kernel
theorem dL_holds_403 : decode cL_holds 403 = .ok (.iload 4, 2) := by decide +kernel
theorem dL_holds_405 : decode cL_holds 405 = .ok (.aload_n 0, 1) := by decide +kernel
theorem dL_holds_406 : decode cL_holds 406 = .ok (.iconst 2, 1) := by decide +kernel
theorem dL_holds_407 : decode cL_holds 407 = .ok (.invokevirtual 12, 3) := by decide +kernel
theorem dL_holds_410 : decode cL_holds 410 = .ok (.if_icmp .ne 17, 3) := by decide +kernel
theorem dL_holds_413 : decode cL_holds 413 = .ok (.iload 5, 2) := by decide +kernel
theorem dL_holds_415 : decode cL_holds 415 = .ok (.aload_n 0, 1) := by decide +kernel
theorem dL_holds_416 : decode cL_holds 416 = .ok (.iconst 3, 1) := by decide +kernel
theorem dL_holds_417 : decode cL_holds 417 = .ok (.invokevirtual 12, 3) := by decide +kernel
theorem dL_holds_420 : decode cL_holds 420 = .ok (.if_icmp .ne 7, 3) := by decide +kernel
theorem dL_holds_423 : decode cL_holds 423 = .ok (.iconst 1, 1) := by decide +kernel
theorem dL_holds_424 : decode cL_holds 424 = .ok (.goto 4, 3) := by decide +kernel
theorem dL_holds_427 : decode cL_holds 427 = .ok (.iconst 0, 1) := by decide +kernel
theorem dL_holds_428 : decode cL_holds 428 = .ok (.istore 13, 2) := by decide +kernel
theorem dL_holds_430 : decode cL_holds 430 = .ok (.iload 12, 2) := by decide +kernel
theorem dL_holds_432 : decode cL_holds 432 = .ok (.ifCond .eq 78, 3) := by decide +kernel
theorem dL_holds_435 : decode cL_holds 435 = .ok (.iload 13, 2) := by decide +kernel
theorem dL_holds_437 : decode cL_holds 437 = .ok (.ifCond .eq 73, 3) := by decide +kernel
theorem dL_holds_440 : decode cL_holds 440 = .ok (.iload_n 3, 1) := by decide +kernel
theorem dL_holds_441 : decode cL_holds 441 = .ok (.aload_n 0, 1) := by decide +kernel
theorem dL_holds_442 : decode cL_holds 442 = .ok (.iconst 0, 1) := by decide +kernel
theorem dL_holds_443 : decode cL_holds 443 = .ok (.invokevirtual 12, 3) := by decide +kernel
theorem dL_holds_446 : decode cL_holds 446 = .ok (.if_icmp .ne 64, 3) := by decide +kernel
theorem dL_holds_449 : decode cL_holds 449 = .ok (.iload 6, 2) := by decide +kernel
theorem dL_holds_451 : decode cL_holds 451 = .ok (.aload_n 0, 1) := by decide +kernel
theorem dL_holds_452 : decode cL_holds 452 = .ok (.bipush 6, 2) := by decide +kernel
theorem dL_holds_454 : decode cL_holds 454 = .ok (.invokevirtual 12, 3) := by decide +kernel
theorem dL_holds_457 : decode cL_holds 457 = .ok (.if_icmp .ne 53, 3) := by decide +kernel
theorem dL_holds_460 : decode cL_holds 460 = .ok (.aload_n 0, 1) := by decide +kernel
theorem dL_holds_461 : decode cL_holds 461 = .ok (.iconst 2, 1) := by decide +kernel
theorem dL_holds_462 : decode cL_holds 462 = .ok (.invokevirtual 12, 3) := by decide +kernel
theorem dL_holds_465 : decode cL_holds 465 = .ok (.aload_n 0, 1) := by decide +kernel
theorem dL_holds_466 : decode cL_holds 466 = .ok (.bipush 7, 2) := by decide +kernel
theorem dL_holds_468 : decode cL_holds 468 = .ok (.invokevirtual 12, 3) := by decide +kernel
theorem dL_holds_471 : decode cL_holds 471 = .ok (.iconst 1, 1) := by decide +kernel
theorem dL_holds_472 : decode cL_holds 472 = .ok (.iadd, 1) := by decide +kernel
theorem dL_holds_473 : decode cL_holds 473 = .ok (.if_icmp .gt 37, 3) := by decide +kernel
theorem dL_holds_476 : decode cL_holds 476 = .ok (.aload_n 0, 1) := by decide +kernel
theorem dL_holds_477 : decode cL_holds 477 = .ok (.iconst 4, 1) := by decide +kernel
theorem dL_holds_478 : decode cL_holds 478 = .ok (.invokevirtual 12, 3) := by decide +kernel
theorem dL_holds_481 : decode cL_holds 481 = .ok (.bipush 12, 2) := by decide +kernel
theorem dL_holds_483 : decode cL_holds 483 = .ok (.if_icmp .gt 27, 3) := by decide +kernel
theorem dL_holds_486 : decode cL_holds 486 = .ok (.aload_n 0, 1) := by decide +kernel
theorem dL_holds_487 : decode cL_holds 487 = .ok (.iconst 5, 1) := by decide +kernel
theorem dL_holds_488 : decode cL_holds 488 = .ok (.invokevirtual 12, 3) := by decide +kernel
theorem dL_holds_491 : decode cL_holds 491 = .ok (.iload 9, 2) := by decide +kernel
theorem dL_holds_493 : decode cL_holds 493 = .ok (.if_icmp .gt 17, 3) := by decide +kernel
theorem dL_holds_496 : decode cL_holds 496 = .ok (.iload 9, 2) := by decide +kernel
theorem dL_holds_498 : decode cL_holds 498 = .ok (.aload_n 0, 1) := by decide +kernel
theorem dL_holds_499 : decode cL_holds 499 = .ok (.iconst 4, 1) := by decide +kernel
theorem dL_holds_500 : decode cL_holds 500 = .ok (.invokevirtual 12, 3) := by decide +kernel
theorem dL_holds_503 : decode cL_holds 503 = .ok (.if_icmp .gt 7, 3) := by decide +kernel
theorem dL_holds_506 : decode cL_holds 506 = .ok (.iconst 1, 1) := by decide +kernel
theorem dL_holds_507 : decode cL_holds 507 = .ok (.goto 4, 3) := by decide +kernel
theorem dL_holds_510 : decode cL_holds 510 = .ok (.iconst 0, 1) := by decide +kernel
theorem dL_holds_511 : decode cL_holds 511 = .ok (.ireturn, 1) := by decide +kernel

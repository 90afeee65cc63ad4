set_option maxRecDepth 20000 in
theorem ggL_law_X5_moveTent : GoodIn wsL_law wsX5_moveTent := goodIn_r _ [480, 15, 21, 338, 131, 132, 14, 133, 101, 40, 134, 111, 112, 37, 113, 59, 94, 95, 2, 96, 481, 103, 104, 33, 105, 53, 106, 107, 108, 109, 49, 50, 51, 110, 114, 115, 116, 117, 482, 119, 120, 121, 52, 483, 145, 146, 147, 20, 148, 149, 150, 151, 152, 153, 154, 155, 156, 157, 158, 70, 159, 160, 161, 162, 163, 164, 165, 166, 34, 38, 39, 41, 42, 43, 167, 168, 169, 170, 171, 172, 173, 174, 175, 484, 198, 199, 200, 196, 61, 62, 63, 485, 123, 124, 125, 847, 848, 849, 850, 851, 852, 867, 868, 869, 870, 871, 872, 873, 874, 875, 876, 877, 878, 889, 884, 885, 886, 887, 888, 879, 880, 881] (by decide +kernel) (by decide +kernel)
set_option maxRecDepth 20000 in
theorem gL_law_X5_moveTent : GoodIn wsL_law (wsV RL 28 RX5 yX5_moveTent wsX5_moveTent) := goodIn_app (goodIn_of _ (by decide +kernel)) ggL_law_X5_moveTent
set_option maxRecDepth 20000 in
theorem ggL_law_X6_moveTent : GoodIn wsL_law wsX6_moveTent := goodIn_r _ [489, 89, 426, 427, 428, 5, 429, 208, 209, 210, 241, 242, 243, 244, 82, 205, 206, 207, 215, 216, 217, 218, 219, 220, 221, 222, 223, 224, 225, 226, 227, 228, 229, 230, 231, 232, 233, 234, 235, 236, 237, 238, 239, 240, 245, 246, 247, 248, 249, 84, 254, 255, 256, 257, 853, 854, 855, 856, 857, 858, 859, 860, 861, 862, 863, 864, 865, 866] (by decide +kernel) (by decide +kernel)
set_option maxRecDepth 20000 in
theorem gL_law_X6_moveTent : GoodIn wsL_law (wsV RL 32 RX6 yX6_moveTent wsX6_moveTent) := goodIn_app (goodIn_of _ (by decide +kernel)) ggL_law_X6_moveTent
set_option maxRecDepth 20000 in
theorem ggL_law_X5_handOver : GoodIn wsL_law wsX5_handOver := goodIn_r _ [493, 15, 21, 94, 95, 2, 96, 338, 131, 132, 14, 133, 101, 40, 134, 111, 112, 37, 113, 59, 481, 103, 104, 33, 105, 53, 106, 107, 108, 109, 49, 50, 51, 110, 114, 115, 116, 117, 482, 119, 120, 121, 52, 494, 127, 128, 129, 34, 38, 39, 130, 135, 495, 373, 374, 375, 376, 377, 378, 379, 380, 381, 382, 383, 384, 385, 386, 387, 388, 389, 390, 391, 392, 393, 394, 395, 396, 397, 496, 402, 403, 404, 145, 146, 147, 20, 148, 149, 150, 151, 152, 153, 154, 155, 156, 157, 158, 70, 159, 160, 161, 162, 163, 164, 165, 166, 41, 42, 43, 167, 168, 169, 170, 171, 172, 173, 174, 175, 497, 498, 499, 500, 409, 410, 411, 412, 60, 61, 62, 63, 367, 368, 369, 370, 184, 185, 141, 186, 187, 144, 371, 118, 413, 414, 415, 416, 192, 193, 194, 195, 139, 140, 142, 143, 417, 418, 419, 420, 847, 848, 849, 850, 851, 852, 867, 868, 869, 870, 871, 872, 873, 874, 875, 876, 877, 878, 889, 884, 885, 886, 887, 888, 879, 880, 881] (by decide +kernel) (by decide +kernel)
set_option maxRecDepth 20000 in
theorem gL_law_X5_handOver : GoodIn wsL_law (wsV RL 33 RX5 yX5_handOver wsX5_handOver) := goodIn_app (goodIn_of _ (by decide +kernel)) ggL_law_X5_handOver
set_option maxRecDepth 20000 in
theorem ggL_law_X6_handOver : GoodIn wsL_law wsX6_handOver := goodIn_r _ [504, 89, 82, 205, 206, 5, 207, 208, 209, 210, 426, 427, 428, 429, 241, 242, 243, 244, 215, 216, 217, 218, 219, 220, 221, 222, 223, 224, 225, 226, 227, 228, 229, 230, 231, 232, 233, 234, 235, 236, 237, 238, 239, 240, 454, 455, 456, 457, 458, 459, 460, 461, 462, 463, 464, 245, 246, 247, 248, 249, 84, 446, 447, 448, 449, 473, 474, 475, 476, 438, 439, 440, 441, 262, 263, 264, 265, 853, 854, 855, 856, 857, 858, 859, 860, 861, 862, 863, 864, 865, 866] (by decide +kernel) (by decide +kernel)
set_option maxRecDepth 20000 in
theorem gL_law_X6_handOver : GoodIn wsL_law (wsV RL 36 RX6 yX6_handOver wsX6_handOver) := goodIn_app (goodIn_of _ (by decide +kernel)) ggL_law_X6_handOver
set_option maxRecDepth 20000 in
theorem ggL_law_X5_lay : GoodIn wsL_law wsX5_lay := goodIn_r _ [508, 15, 21, 94, 95, 2, 96, 145, 146, 147, 20, 148, 149, 150, 151, 152, 153, 154, 155, 156, 157, 158, 70, 159, 160, 161, 14, 162, 101, 163, 164, 165, 166, 34, 38, 39, 40, 41, 42, 43, 167, 168, 169, 33, 170, 53, 49, 50, 51, 52, 171, 172, 173, 37, 174, 59, 175, 509, 510, 511, 512, 196, 61, 62, 63, 513, 514, 515, 516, 847, 848, 849, 850, 851, 852, 867, 868, 869, 870, 871, 872, 873, 874, 875, 876, 877, 878, 879, 880, 881, 884, 885, 886, 887, 888, 889] (by decide +kernel) (by decide +kernel)
set_option maxRecDepth 20000 in
theorem gL_law_X5_lay : GoodIn wsL_law (wsV RL 37 RX5 yX5_lay wsX5_lay) := goodIn_app (goodIn_of _ (by decide +kernel)) ggL_law_X5_lay
set_option maxRecDepth 20000 in
theorem ggL_law_X6_lay : GoodIn wsL_law wsX6_lay := goodIn_r _ [520, 89, 82, 205, 206, 5, 207, 208, 209, 210, 245, 246, 247, 248, 249, 84, 853, 854, 855, 856, 857, 858, 859, 860, 861, 862, 863, 864, 865, 866] (by decide +kernel) (by decide +kernel)
set_option maxRecDepth 20000 in
theorem gL_law_X6_lay : GoodIn wsL_law (wsV RL 40 RX6 yX6_lay wsX6_lay) := goodIn_app (goodIn_of _ (by decide +kernel)) ggL_law_X6_lay
set_option maxRecDepth 20000 in
theorem ggL_law_X5_carry : GoodIn wsL_law wsX5_carry := goodIn_r _ [524, 15, 21, 525, 526, 527, 14, 528, 163, 94, 95, 2, 96, 483, 111, 112, 37, 113, 59, 145, 146, 147, 20, 148, 149, 150, 151, 152, 153, 154, 155, 156, 157, 158, 70, 159, 160, 161, 162, 101, 164, 165, 166, 34, 38, 39, 40, 41, 42, 43, 167, 168, 169, 33, 170, 53, 49, 50, 51, 52, 171, 172, 173, 174, 175, 529, 514, 515, 516, 196, 61, 62, 63, 530, 531, 532, 533, 534, 535, 536, 537, 134, 538, 539, 540, 541, 371, 103, 104, 105, 106, 107, 108, 109, 110, 114, 115, 116, 117, 847, 848, 849, 850, 851, 852, 867, 868, 869, 870, 871, 872, 873, 874, 875, 876, 877, 878, 889, 879, 880, 881, 884, 885, 886, 887, 888] (by decide +kernel) (by decide +kernel)
set_option maxRecDepth 20000 in
theorem gL_law_X5_carry : GoodIn wsL_law (wsV RL 41 RX5 yX5_carry wsX5_carry) := goodIn_app (goodIn_of _ (by decide +kernel)) ggL_law_X5_carry
set_option maxRecDepth 20000 in
theorem ggL_law_X6_carry : GoodIn wsL_law wsX6_carry := goodIn_r _ [545, 89, 82, 546, 547, 548, 5, 549, 208, 209, 210, 205, 206, 207, 550, 551, 552, 553, 245, 246, 247, 248, 249, 84, 554, 555, 556, 557, 215, 216, 217, 218, 219, 220, 221, 222, 223, 224, 225, 226, 227, 228, 229, 230, 231, 232, 233, 234, 235, 236, 237, 238, 239, 240, 853, 854, 855, 856, 857, 858, 859, 860, 861, 862, 863, 864, 865, 866] (by decide +kernel) (by decide +kernel)
set_option maxRecDepth 20000 in
theorem gL_law_X6_carry : GoodIn wsL_law (wsV RL 44 RX6 yX6_carry wsX6_carry) := goodIn_app (goodIn_of _ (by decide +kernel)) ggL_law_X6_carry

set_option maxRecDepth 20000 in
theorem ggL_law_X5_restore : GoodIn wsL_law wsX5_restore := goodIn_r _ [602, 26, 21, 15, 17, 145, 146, 147, 20, 148, 149, 150, 151, 152, 153, 154, 155, 156, 157, 158, 70, 159, 160, 161, 14, 162, 101, 163, 164, 165, 166, 34, 38, 39, 40, 41, 42, 43, 167, 168, 169, 33, 170, 53, 49, 50, 51, 52, 171, 172, 173, 37, 174, 59, 175, 285, 421, 344, 345, 346, 134, 111, 112, 113, 847, 848, 849, 850, 851, 852, 879, 880, 881, 867, 868, 869, 870, 871, 872, 873, 874, 875, 876, 877, 878, 884, 885, 886, 887, 888, 889] (by decide +kernel) (by decide +kernel)
set_option maxRecDepth 20000 in
theorem gL_law_X5_restore : GoodIn wsL_law (wsV RL 62 RX5 yX5_restore wsX5_restore) := goodIn_app (goodIn_of _ (by decide +kernel)) ggL_law_X5_restore
set_option maxRecDepth 20000 in
theorem ggL_law_X6_restore : GoodIn wsL_law wsX6_restore := goodIn_r _ [606, 89, 598, 82, 85, 245, 246, 247, 5, 248, 249, 84, 430, 431, 432, 433, 241, 242, 243, 244, 853, 854, 855, 856, 857, 858, 859, 860, 861, 862, 863, 864, 865, 866] (by decide +kernel) (by decide +kernel)
set_option maxRecDepth 20000 in
theorem gL_law_X6_restore : GoodIn wsL_law (wsV RL 65 RX6 yX6_restore wsX6_restore) := goodIn_app (goodIn_of _ (by decide +kernel)) ggL_law_X6_restore
set_option maxRecDepth 20000 in
theorem ggL_law_X5_plot : GoodIn wsL_law wsX5_plot := goodIn_r _ [610, 15, 94, 95, 2, 96, 481, 103, 104, 33, 105, 53, 106, 107, 108, 109, 49, 50, 51, 110, 111, 112, 37, 113, 59, 114, 115, 116, 117, 482, 119, 120, 121, 52, 611, 612, 613, 485, 123, 124, 125, 614, 381, 382, 383, 615, 389, 390, 391, 616, 385, 386, 387, 617, 393, 394, 395, 618, 619, 620, 621, 376, 377, 378, 379, 380, 384, 388, 392, 847, 848, 849, 850, 851, 852, 867, 868, 869, 870, 871, 872, 873, 874, 875, 876, 877, 878, 884, 885, 886, 887, 888, 889] (by decide +kernel) (by decide +kernel)
set_option maxRecDepth 20000 in
theorem gL_law_X5_plot : GoodIn wsL_law (wsV RL 66 RX5 yX5_plot wsX5_plot) := goodIn_app (goodIn_of _ (by decide +kernel)) ggL_law_X5_plot
set_option maxRecDepth 20000 in
theorem ggL_law_X6_plot : GoodIn wsL_law wsX6_plot := goodIn_r _ [625, 89, 205, 206, 5, 207, 208, 209, 210, 215, 216, 217, 218, 219, 220, 221, 222, 223, 224, 225, 226, 82, 227, 228, 229, 230, 231, 232, 233, 234, 235, 236, 237, 238, 239, 240, 626, 627, 628, 629, 458, 459, 460, 461, 462, 463, 464, 853, 854, 855, 856, 857, 858, 859, 860, 861, 862, 863, 864, 865, 866] (by decide +kernel) (by decide +kernel)
set_option maxRecDepth 20000 in
theorem gL_law_X6_plot : GoodIn wsL_law (wsV RL 69 RX6 yX6_plot wsX6_plot) := goodIn_app (goodIn_of _ (by decide +kernel)) ggL_law_X6_plot
set_option maxRecDepth 20000 in
theorem ggL_law_X5_camper : GoodIn wsL_law wsX5_camper := goodIn_r _ [633, 15, 338, 131, 132, 14, 133, 101, 40, 134, 111, 112, 37, 113, 59, 483, 634, 635, 636, 33, 637, 53, 52, 110, 638, 406, 407, 408, 51, 114, 2, 115, 116, 117, 639, 640, 641, 642, 163, 643, 535, 536, 537, 34, 41, 42, 538, 539, 540, 541, 371, 103, 104, 105, 106, 107, 108, 109, 49, 50, 644, 645, 646, 647, 648, 373, 374, 375, 376, 377, 378, 379, 380, 381, 382, 383, 384, 385, 386, 387, 388, 389, 390, 391, 392, 393, 394, 395, 396, 397, 649, 650, 651, 652, 653, 654, 655, 656, 657, 658, 659, 660, 661, 662, 663, 43, 664, 665, 666, 667, 668, 847, 848, 849, 850, 851, 852, 867, 868, 869, 870, 871, 872, 873, 874, 875, 876, 877, 878, 889, 884, 885, 886, 887, 888] (by decide +kernel) (by decide +kernel)
set_option maxRecDepth 20000 in
theorem gL_law_X5_camper : GoodIn wsL_law (wsV RL 70 RX5 yX5_camper wsX5_camper) := goodIn_app (goodIn_of _ (by decide +kernel)) ggL_law_X5_camper
set_option maxRecDepth 20000 in
theorem ggL_law_X6_camper : GoodIn wsL_law wsX6_camper := goodIn_r _ [672, 89, 426, 427, 428, 5, 429, 208, 209, 210, 241, 242, 243, 244, 82, 673, 674, 675, 676, 223, 224, 225, 226, 465, 466, 467, 468, 469, 470, 471, 472, 231, 232, 233, 238, 239, 240, 677, 678, 679, 680, 554, 555, 556, 557, 550, 551, 552, 553, 215, 216, 217, 218, 219, 220, 221, 222, 227, 228, 229, 230, 234, 235, 236, 237, 681, 682, 683, 684, 685, 686, 687, 688, 454, 455, 456, 457, 458, 459, 460, 461, 462, 463, 464, 689, 690, 691, 692, 693, 694, 695, 696, 697, 698, 699, 700, 701, 702, 703, 704, 705, 706, 707, 708, 853, 854, 855, 856, 857, 858, 859, 860, 861, 862, 863, 864, 865, 866] (by decide +kernel) (by decide +kernel)
set_option maxRecDepth 20000 in
theorem gL_law_X6_camper : GoodIn wsL_law (wsV RL 73 RX6 yX6_camper wsX6_camper) := goodIn_app (goodIn_of _ (by decide +kernel)) ggL_law_X6_camper
set_option maxRecDepth 20000 in
theorem ggL_law_X5_plotOf : GoodIn wsL_law wsX5_plotOf := goodIn_r _ [712, 15, 338, 131, 132, 14, 133, 101, 40, 134, 111, 112, 37, 113, 59, 713, 714, 715, 33, 716, 53, 52, 110, 717, 718, 719, 720, 359, 360, 361, 362, 49, 50, 614, 381, 382, 383, 615, 389, 390, 391, 485, 123, 124, 125, 51, 847, 848, 849, 850, 851, 852, 867, 868, 869, 870, 871, 872, 873, 874, 875, 876, 877, 878, 889, 884, 885, 886, 887, 888] (by decide +kernel) (by decide +kernel)
set_option maxRecDepth 20000 in
theorem gL_law_X5_plotOf : GoodIn wsL_law (wsV RL 74 RX5 yX5_plotOf wsX5_plotOf) := goodIn_app (goodIn_of _ (by decide +kernel)) ggL_law_X5_plotOf
set_option maxRecDepth 20000 in
theorem ggL_law_X6_plotOf : GoodIn wsL_law wsX6_plotOf := goodIn_r _ [724, 89, 82, 426, 427, 428, 5, 429, 208, 209, 210, 241, 242, 243, 244, 223, 224, 225, 226, 725, 726, 727, 728, 438, 439, 440, 441, 853, 854, 855, 856, 857, 858, 859, 860, 861, 862, 863, 864, 865, 866] (by decide +kernel) (by decide +kernel)
set_option maxRecDepth 20000 in
theorem gL_law_X6_plotOf : GoodIn wsL_law (wsV RL 77 RX6 yX6_plotOf wsX6_plotOf) := goodIn_app (goodIn_of _ (by decide +kernel)) ggL_law_X6_plotOf

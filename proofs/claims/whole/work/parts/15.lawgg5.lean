set_option maxRecDepth 20000 in
theorem ggL_law_X5_song : GoodIn wsL_law wsX5_song := goodIn_r _ [732, 15, 525, 526, 527, 14, 528, 163, 483, 111, 112, 37, 113, 59, 733, 661, 662, 663, 43, 664, 134, 665, 666, 2, 667, 668, 530, 531, 532, 533, 534, 535, 536, 537, 34, 41, 42, 538, 539, 540, 33, 541, 52, 371, 103, 104, 105, 53, 106, 107, 108, 109, 49, 50, 51, 110, 114, 115, 116, 117, 847, 848, 849, 850, 851, 852, 867, 868, 869, 870, 871, 872, 873, 874, 875, 876, 877, 878, 889, 884, 885, 886, 887, 888] (by decide +kernel) (by decide +kernel)
set_option maxRecDepth 20000 in
theorem gL_law_X5_song : GoodIn wsL_law (wsV RL 78 RX5 yX5_song wsX5_song) := goodIn_app (goodIn_of _ (by decide +kernel)) ggL_law_X5_song
set_option maxRecDepth 20000 in
theorem ggL_law_X6_song : GoodIn wsL_law wsX6_song := goodIn_r _ [737, 89, 546, 547, 548, 5, 549, 82, 208, 209, 210, 550, 551, 552, 553, 693, 694, 695, 696, 697, 698, 699, 700, 701, 702, 703, 704, 705, 706, 707, 708, 554, 555, 556, 557, 215, 216, 217, 218, 219, 220, 221, 222, 223, 224, 225, 226, 227, 228, 229, 230, 231, 232, 233, 234, 235, 236, 237, 238, 239, 240, 853, 854, 855, 856, 857, 858, 859, 860, 861, 862, 863, 864, 865, 866] (by decide +kernel) (by decide +kernel)
set_option maxRecDepth 20000 in
theorem gL_law_X6_song : GoodIn wsL_law (wsV RL 81 RX6 yX6_song wsX6_song) := goodIn_app (goodIn_of _ (by decide +kernel)) ggL_law_X6_song
set_option maxRecDepth 20000 in
theorem ggL_law_X5_way : GoodIn wsL_law wsX5_way := goodIn_r _ [741, 15, 338, 131, 132, 14, 133, 101, 40, 134, 111, 112, 37, 113, 59, 94, 95, 2, 96, 742, 743, 744, 745, 34, 38, 39, 102, 103, 104, 33, 105, 53, 106, 107, 108, 109, 49, 50, 51, 110, 114, 115, 116, 117, 135, 746, 747, 748, 749, 376, 377, 378, 379, 380, 381, 382, 383, 384, 385, 386, 387, 388, 389, 390, 391, 392, 393, 394, 395, 750, 751, 752, 753, 754, 755, 756, 757, 758, 759, 760, 359, 360, 361, 362, 482, 119, 120, 121, 52, 614, 615, 847, 848, 849, 850, 851, 852, 867, 868, 869, 870, 871, 872, 873, 874, 875, 876, 877, 878, 889, 884, 885, 886, 887, 888] (by decide +kernel) (by decide +kernel)
set_option maxRecDepth 20000 in
theorem gL_law_X5_way : GoodIn wsL_law (wsV RL 82 RX5 yX5_way wsX5_way) := goodIn_app (goodIn_of _ (by decide +kernel)) ggL_law_X5_way
set_option maxRecDepth 20000 in
theorem ggL_law_X6_way : GoodIn wsL_law wsX6_way := goodIn_r _ [764, 89, 426, 427, 428, 5, 429, 208, 209, 210, 241, 242, 243, 244, 82, 205, 206, 207, 765, 766, 767, 768, 215, 216, 217, 218, 219, 220, 221, 222, 223, 224, 225, 226, 227, 228, 229, 230, 231, 232, 233, 234, 235, 236, 237, 238, 239, 240, 769, 770, 771, 772, 773, 458, 459, 460, 461, 462, 463, 464, 774, 775, 776, 777, 778, 779, 780, 438, 439, 440, 441, 853, 854, 855, 856, 857, 858, 859, 860, 861, 862, 863, 864, 865, 866] (by decide +kernel) (by decide +kernel)
set_option maxRecDepth 20000 in
theorem gL_law_X6_way : GoodIn wsL_law (wsV RL 86 RX6 yX6_way wsX6_way) := goodIn_app (goodIn_of _ (by decide +kernel)) ggL_law_X6_way
set_option maxRecDepth 20000 in
theorem ggL_law_X5_would : GoodIn wsL_law wsX5_would := goodIn_r _ [784, 15, 94, 95, 2, 96, 97, 98, 99, 14, 100, 101, 34, 38, 39, 102, 103, 104, 33, 105, 53, 106, 107, 108, 109, 49, 50, 51, 110, 111, 112, 37, 113, 59, 114, 115, 116, 117, 118, 119, 120, 121, 52, 122, 123, 124, 125, 126, 127, 128, 129, 130, 131, 132, 133, 40, 134, 135, 136, 137, 138, 139, 140, 141, 142, 143, 144, 785, 786, 787, 788, 163, 41, 42, 789, 539, 540, 541, 371, 611, 612, 613, 847, 848, 849, 850, 851, 852, 867, 868, 869, 870, 871, 872, 873, 874, 875, 876, 877, 878, 884, 885, 886, 887, 888, 889] (by decide +kernel) (by decide +kernel)
set_option maxRecDepth 20000 in
theorem gL_law_X5_would : GoodIn wsL_law (wsV RL 87 RX5 yX5_would wsX5_would) := goodIn_app (goodIn_of _ (by decide +kernel)) ggL_law_X5_would
set_option maxRecDepth 20000 in
theorem ggL_law_X6_would : GoodIn wsL_law wsX6_would := goodIn_r _ [793, 89, 205, 206, 5, 207, 208, 209, 210, 211, 212, 213, 214, 82, 215, 216, 217, 218, 219, 220, 221, 222, 223, 224, 225, 226, 227, 228, 229, 230, 231, 232, 233, 234, 235, 236, 237, 238, 239, 240, 241, 242, 243, 244, 322, 323, 324, 325, 83, 250, 251, 252, 253, 254, 255, 256, 257, 258, 259, 260, 261, 262, 263, 264, 265, 677, 678, 679, 680, 554, 555, 556, 557, 550, 551, 552, 553, 326, 327, 328, 329, 853, 854, 855, 856, 857, 858, 859, 860, 861, 862, 863, 864, 865, 866] (by decide +kernel) (by decide +kernel)
set_option maxRecDepth 20000 in
theorem gL_law_X6_would : GoodIn wsL_law (wsV RL 90 RX6 yX6_would wsX6_would) := goodIn_app (goodIn_of _ (by decide +kernel)) ggL_law_X6_would
set_option maxRecDepth 20000 in
theorem ggL_law_X5_loudest : GoodIn wsL_law wsX5_loudest := goodIn_r _ [797, 798, 15, 338, 131, 132, 14, 133, 101, 40, 134, 111, 112, 37, 113, 59, 656, 657, 658, 659, 163, 643, 535, 536, 537, 34, 41, 42, 538, 539, 540, 33, 541, 52, 371, 103, 104, 105, 53, 106, 107, 108, 109, 49, 50, 51, 110, 114, 2, 115, 116, 117, 660, 661, 662, 663, 43, 664, 847, 848, 849, 850, 851, 852, 867, 868, 869, 870, 871, 872, 873, 874, 875, 876, 877, 878, 889, 884, 885, 886, 887, 888] (by decide +kernel) (by decide +kernel)
set_option maxRecDepth 20000 in
theorem gL_law_X5_loudest : GoodIn wsL_law (wsV RL 91 RX5 yX5_loudest wsX5_loudest) := goodIn_app (goodIn_of _ (by decide +kernel)) ggL_law_X5_loudest
set_option maxRecDepth 20000 in
theorem ggL_law_X6_loudest : GoodIn wsL_law wsX6_loudest := goodIn_r _ [802, 89, 426, 427, 428, 5, 429, 208, 209, 210, 241, 242, 243, 244, 82, 689, 690, 691, 692, 554, 555, 556, 557, 550, 551, 552, 553, 215, 216, 217, 218, 219, 220, 221, 222, 223, 224, 225, 226, 227, 228, 229, 230, 231, 232, 233, 234, 235, 236, 237, 238, 239, 240, 693, 694, 695, 696, 853, 854, 855, 856, 857, 858, 859, 860, 861, 862, 863, 864, 865, 866] (by decide +kernel) (by decide +kernel)
set_option maxRecDepth 20000 in
theorem gL_law_X6_loudest : GoodIn wsL_law (wsV RL 94 RX6 yX6_loudest wsX6_loudest) := goodIn_app (goodIn_of _ (by decide +kernel)) ggL_law_X6_loudest

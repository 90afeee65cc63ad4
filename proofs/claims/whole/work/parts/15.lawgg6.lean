set_option maxRecDepth 20000 in
theorem ggL_law_X5_share : GoodIn wsL_law wsX5_share := goodIn_r _ [806, 15, 798, 807, 338, 131, 132, 14, 133, 101, 40, 134, 111, 112, 37, 113, 59, 638, 406, 407, 33, 408, 53, 52, 51, 110, 114, 2, 115, 116, 117, 847, 848, 849, 850, 851, 852, 867, 868, 869, 870, 871, 872, 873, 874, 875, 876, 877, 878, 889, 884, 885, 886, 887, 888] (by decide +kernel) (by decide +kernel)
set_option maxRecDepth 20000 in
theorem gL_law_X5_share : GoodIn wsL_law (wsV RL 95 RX5 yX5_share wsX5_share) := goodIn_app (goodIn_of _ (by decide +kernel)) ggL_law_X5_share
set_option maxRecDepth 20000 in
theorem ggL_law_X6_share : GoodIn wsL_law wsX6_share := goodIn_r _ [811, 89, 812, 813, 426, 427, 428, 5, 429, 208, 209, 210, 241, 242, 243, 244, 82, 465, 466, 467, 468, 223, 224, 225, 226, 469, 470, 471, 472, 231, 232, 233, 238, 239, 240, 853, 854, 855, 856, 857, 858, 859, 860, 861, 862, 863, 864, 865, 866] (by decide +kernel) (by decide +kernel)
set_option maxRecDepth 20000 in
theorem gL_law_X6_share : GoodIn wsL_law (wsV RL 99 RX6 yX6_share wsX6_share) := goodIn_app (goodIn_of _ (by decide +kernel)) ggL_law_X6_share
set_option maxRecDepth 20000 in
theorem ggL_law_X5_count : GoodIn wsL_law wsX5_count := goodIn_r _ [817, 15, 21, 25, 421, 344, 345, 14, 346, 101, 40, 134, 111, 112, 37, 113, 59, 818, 819, 820, 33, 821, 53, 51, 822, 823, 153, 824, 110, 825, 826, 827, 828, 829, 152, 154, 830, 831, 832, 833, 34, 834, 635, 636, 637, 52, 847, 848, 849, 850, 851, 852, 867, 868, 869, 870, 871, 872, 873, 874, 875, 876, 877, 878, 884, 885, 886, 887, 888, 879, 880, 881, 882, 883, 889] (by decide +kernel) (by decide +kernel)
set_option maxRecDepth 20000 in
theorem gL_law_X5_count : GoodIn wsL_law (wsV RL 100 RX5 yX5_count wsX5_count) := goodIn_app (goodIn_of _ (by decide +kernel)) ggL_law_X5_count
set_option maxRecDepth 20000 in
theorem ggL_law_X6_count : GoodIn wsL_law wsX6_count := goodIn_r _ [838, 89, 82, 249, 305, 430, 431, 432, 5, 433, 241, 242, 243, 244, 839, 840, 841, 842, 223, 224, 225, 226, 843, 844, 845, 846, 426, 427, 428, 429, 208, 209, 210, 673, 674, 675, 676, 853, 854, 855, 856, 857, 858, 859, 860, 861, 862, 863, 864, 865, 866] (by decide +kernel) (by decide +kernel)
set_option maxRecDepth 20000 in
theorem gL_law_X6_count : GoodIn wsL_law (wsV RL 103 RX6 yX6_count wsX6_count) := goodIn_app (goodIn_of _ (by decide +kernel)) ggL_law_X6_count

set_option maxRecDepth 20000 in
theorem ggX6_handOver_X6_ofPlot : GoodIn wsX6_handOver wsX6_ofPlot := goodIn_r _ [29, 2, 77, 78, 79, 80, 81, 82, 83, 84, 85, 86, 87, 88, 89, 90] (by decide +kernel) (by decide +kernel)
set_option maxRecDepth 20000 in
theorem gX6_handOver_X6_ofPlot : GoodIn wsX6_handOver (wsV RX6 46 RX6 yX6_ofPlot wsX6_ofPlot) := goodIn_app (goodIn_of _ (by decide +kernel)) ggX6_handOver_X6_ofPlot
set_option maxRecDepth 20000 in
theorem ggX6_handOver_X6_ofCamper : GoodIn wsX6_handOver wsX6_ofCamper := goodIn_r _ [17, 2, 77, 78, 79, 80, 81, 82, 83, 84, 85, 86, 87, 88, 89, 90] (by decide +kernel) (by decide +kernel)
set_option maxRecDepth 20000 in
theorem gX6_handOver_X6_ofCamper : GoodIn wsX6_handOver (wsV RX6 39 RX6 yX6_ofCamper wsX6_ofCamper) := goodIn_app (goodIn_of _ (by decide +kernel)) ggX6_handOver_X6_ofCamper
set_option maxRecDepth 20000 in
theorem ggX6_handOver_X6_has : GoodIn wsX6_handOver wsX6_has := goodIn_r _ [25, 26, 27, 28, 5, 29, 2, 30, 31, 32, 33, 34, 35, 36, 7, 8, 9, 37, 38, 39, 40, 41, 42, 43, 77, 78, 79, 80, 81, 82, 83, 84, 85, 86, 87, 88, 89, 90] (by decide +kernel) (by decide +kernel)
set_option maxRecDepth 20000 in
theorem gX6_handOver_X6_has : GoodIn wsX6_handOver (wsV RX6 62 RX6 yX6_has wsX6_has) := goodIn_app (goodIn_of _ (by decide +kernel)) ggX6_handOver_X6_has
set_option maxRecDepth 20000 in
theorem ggX6_handOver_X6_touches : GoodIn wsX6_handOver wsX6_touches := goodIn_r _ [47, 2, 26, 27, 28, 5, 29, 48, 49, 50, 51, 30, 31, 32, 33, 34, 35, 36, 37, 38, 39, 40, 41, 42, 43, 52, 53, 54, 77, 78, 79, 80, 81, 82, 83, 84, 85, 86, 87, 88, 89, 90] (by decide +kernel) (by decide +kernel)
set_option maxRecDepth 20000 in
theorem gX6_handOver_X6_touches : GoodIn wsX6_handOver (wsV RX6 126 RX6 yX6_touches wsX6_touches) := goodIn_app (goodIn_of _ (by decide +kernel)) ggX6_handOver_X6_touches
set_option maxRecDepth 20000 in
theorem ggX6_handOver_X6_records : GoodIn wsX6_handOver wsX6_records := goodIn_r _ [58, 59, 60, 2, 77, 78, 79, 80, 81, 82, 83, 84, 85, 86, 87, 88, 89, 90] (by decide +kernel) (by decide +kernel)
set_option maxRecDepth 20000 in
theorem gX6_handOver_X6_records : GoodIn wsX6_handOver (wsV RX6 100 RX6 yX6_records wsX6_records) := goodIn_app (goodIn_of _ (by decide +kernel)) ggX6_handOver_X6_records
set_option maxRecDepth 20000 in
theorem ggX6_handOver_X6_otherHalf : GoodIn wsX6_handOver wsX6_otherHalf := goodIn_r _ [64, 2, 26, 27, 28, 5, 29, 34, 35, 36, 41, 42, 43, 77, 78, 79, 80, 81, 82, 83, 84, 85, 86, 87, 88, 89, 90] (by decide +kernel) (by decide +kernel)
set_option maxRecDepth 20000 in
theorem gX6_handOver_X6_otherHalf : GoodIn wsX6_handOver (wsV RX6 132 RX6 yX6_otherHalf wsX6_otherHalf) := goodIn_app (goodIn_of _ (by decide +kernel)) ggX6_handOver_X6_otherHalf
set_option maxRecDepth 20000 in
theorem ggX6_handOver_X6_joins : GoodIn wsX6_handOver wsX6_joins := goodIn_r _ [68, 2, 69, 70, 71, 5, 72, 26, 27, 28, 29, 73, 74, 75, 76, 77, 78, 79, 80, 81, 82, 83, 84, 85, 86, 87, 88, 89, 90] (by decide +kernel) (by decide +kernel)
set_option maxRecDepth 20000 in
theorem gX6_handOver_X6_joins : GoodIn wsX6_handOver (wsV RX6 138 RX6 yX6_joins wsX6_joins) := goodIn_app (goodIn_of _ (by decide +kernel)) ggX6_handOver_X6_joins
theorem dX6_handOver_0 : decode cX6_handOver 0 = .ok (.aload_n 0, 1) := by decide +kernel
theorem dX6_handOver_1 : decode cX6_handOver 1 = .ok (.iconst 0, 1) := by decide +kernel
theorem dX6_handOver_2 : decode cX6_handOver 2 = .ok (.putfield 31, 3) := by decide +kernel
theorem dX6_handOver_5 : decode cX6_handOver 5 = .ok (.iload_n 1, 1) := by decide +kernel
theorem dX6_handOver_6 : decode cX6_handOver 6 = .ok (.iload_n 2, 1) := by decide +kernel
theorem dX6_handOver_7 : decode cX6_handOver 7 = .ok (.invokestatic 94, 3) := by decide +kernel
theorem dX6_handOver_10 : decode cX6_handOver 10 = .ok (.ifCond .eq 11, 3) := by decide +kernel
theorem dX6_handOver_13 : decode cX6_handOver 13 = .ok (.aload_n 0, 1) := by decide +kernel
theorem dX6_handOver_14 : decode cX6_handOver 14 = .ok (.iload_n 3, 1) := by decide +kernel
theorem dX6_handOver_15 : decode cX6_handOver 15 = .ok (.invokevirtual 122, 3) := by decide +kernel
theorem dX6_handOver_18 : decode cX6_handOver 18 = .ok (.ifCond .ne 5, 3) := by decide +kernel
theorem dX6_handOver_21 : decode cX6_handOver 21 = .ok (.iconst (-1), 1) := by decide +kernel
theorem dX6_handOver_22 : decode cX6_handOver 22 = .ok (.ireturn, 1) := by decide +kernel
theorem dX6_handOver_23 : decode cX6_handOver 23 = .ok (.aload_n 0, 1) := by decide +kernel
theorem dX6_handOver_24 : decode cX6_handOver 24 = .ok (.iload_n 1, 1) := by decide +kernel
theorem dX6_handOver_25 : decode cX6_handOver 25 = .ok (.iload_n 2, 1) := by decide +kernel
theorem dX6_handOver_26 : decode cX6_handOver 26 = .ok (.invokevirtual 83, 3) := by decide +kernel
theorem dX6_handOver_29 : decode cX6_handOver 29 = .ok (.istore 4, 2) := by decide +kernel
theorem dX6_handOver_31 : decode cX6_handOver 31 = .ok (.aload_n 0, 1) := by decide +kernel
theorem dX6_handOver_32 : decode cX6_handOver 32 = .ok (.iload 4, 2) := by decide +kernel
theorem dX6_handOver_34 : decode cX6_handOver 34 = .ok (.iconst 3, 1) := by decide +kernel
theorem dX6_handOver_35 : decode cX6_handOver 35 = .ok (.invokevirtual 46, 3) := by decide +kernel
theorem dX6_handOver_38 : decode cX6_handOver 38 = .ok (.iconst 1, 1) := by decide +kernel
theorem dX6_handOver_39 : decode cX6_handOver 39 = .ok (.isub, 1) := by decide +kernel
theorem dX6_handOver_40 : decode cX6_handOver 40 = .ok (.istore 5, 2) := by decide +kernel
theorem dX6_handOver_42 : decode cX6_handOver 42 = .ok (.aload_n 0, 1) := by decide +kernel
theorem dX6_handOver_43 : decode cX6_handOver 43 = .ok (.iload 4, 2) := by decide +kernel
theorem dX6_handOver_45 : decode cX6_handOver 45 = .ok (.aload_n 0, 1) := by decide +kernel
theorem dX6_handOver_46 : decode cX6_handOver 46 = .ok (.iload 5, 2) := by decide +kernel
theorem dX6_handOver_48 : decode cX6_handOver 48 = .ok (.iconst 1, 1) := by decide +kernel
theorem dX6_handOver_49 : decode cX6_handOver 49 = .ok (.invokevirtual 39, 3) := by decide +kernel
theorem dX6_handOver_52 : decode cX6_handOver 52 = .ok (.aload_n 0, 1) := by decide +kernel
theorem dX6_handOver_53 : decode cX6_handOver 53 = .ok (.iload 5, 2) := by decide +kernel
theorem dX6_handOver_55 : decode cX6_handOver 55 = .ok (.iconst 2, 1) := by decide +kernel
theorem dX6_handOver_56 : decode cX6_handOver 56 = .ok (.invokevirtual 39, 3) := by decide +kernel
theorem dX6_handOver_59 : decode cX6_handOver 59 = .ok (.invokevirtual 62, 3) := by decide +kernel
theorem dX6_handOver_62 : decode cX6_handOver 62 = .ok (.ifCond .ne 13, 3) := by decide +kernel
theorem dX6_handOver_65 : decode cX6_handOver 65 = .ok (.aload_n 0, 1) := by decide +kernel
theorem dX6_handOver_66 : decode cX6_handOver 66 = .ok (.iload 4, 2) := by decide +kernel
theorem dX6_handOver_68 : decode cX6_handOver 68 = .ok (.iload_n 3, 1) := by decide +kernel
theorem dX6_handOver_69 : decode cX6_handOver 69 = .ok (.invokevirtual 126, 3) := by decide +kernel
theorem dX6_handOver_72 : decode cX6_handOver 72 = .ok (.ifCond .ne 6, 3) := by decide +kernel
theorem dX6_handOver_75 : decode cX6_handOver 75 = .ok (.bipush (-4), 2) := by decide +kernel
theorem dX6_handOver_77 : decode cX6_handOver 77 = .ok (.ireturn, 1) := by decide +kernel
theorem dX6_handOver_78 : decode cX6_handOver 78 = .ok (.iload 5, 2) := by decide +kernel
theorem dX6_handOver_80 : decode cX6_handOver 80 = .ok (.iload_n 3, 1) := by decide +kernel
theorem dX6_handOver_81 : decode cX6_handOver 81 = .ok (.if_icmp .ne 6, 3) := by decide +kernel
theorem dX6_handOver_84 : decode cX6_handOver 84 = .ok (.bipush (-5), 2) := by decide +kernel
theorem dX6_handOver_86 : decode cX6_handOver 86 = .ok (.ireturn, 1) := by decide +kernel
theorem dX6_handOver_87 : decode cX6_handOver 87 = .ok (.aload_n 0, 1) := by decide +kernel
theorem dX6_handOver_88 : decode cX6_handOver 88 = .ok (.invokevirtual 100, 3) := by decide +kernel
theorem dX6_handOver_91 : decode cX6_handOver 91 = .ok (.aload_n 0, 1) := by decide +kernel
theorem dX6_handOver_92 : decode cX6_handOver 92 = .ok (.getfield 7, 3) := by decide +kernel
theorem dX6_handOver_95 : decode cX6_handOver 95 = .ok (.bipush 54, 2) := by decide +kernel
theorem dX6_handOver_97 : decode cX6_handOver 97 = .ok (.iconst 4, 1) := by decide +kernel
theorem dX6_handOver_98 : decode cX6_handOver 98 = .ok (.iload 4, 2) := by decide +kernel
theorem dX6_handOver_100 : decode cX6_handOver 100 = .ok (.imul, 1) := by decide +kernel
theorem dX6_handOver_101 : decode cX6_handOver 101 = .ok (.iadd, 1) := by decide +kernel
theorem dX6_handOver_102 : decode cX6_handOver 102 = .ok (.iconst 3, 1) := by decide +kernel
theorem dX6_handOver_103 : decode cX6_handOver 103 = .ok (.iadd, 1) := by decide +kernel
theorem dX6_handOver_104 : decode cX6_handOver 104 = .ok (.iload_n 3, 1) := by decide +kernel
theorem dX6_handOver_105 : decode cX6_handOver 105 = .ok (.iconst 1, 1) := by decide +kernel
theorem dX6_handOver_106 : decode cX6_handOver 106 = .ok (.iadd, 1) := by decide +kernel
theorem dX6_handOver_107 : decode cX6_handOver 107 = .ok (.iastore, 1) := by decide +kernel
theorem dX6_handOver_108 : decode cX6_handOver 108 = .ok (.aload_n 0, 1) := by decide +kernel
theorem dX6_handOver_109 : decode cX6_handOver 109 = .ok (.iload 4, 2) := by decide +kernel
theorem dX6_handOver_111 : decode cX6_handOver 111 = .ok (.invokevirtual 132, 3) := by decide +kernel
theorem dX6_handOver_114 : decode cX6_handOver 114 = .ok (.istore 6, 2) := by decide +kernel
theorem dX6_handOver_116 : decode cX6_handOver 116 = .ok (.iload 6, 2) := by decide +kernel
theorem dX6_handOver_118 : decode cX6_handOver 118 = .ok (.bipush (-5), 2) := by decide +kernel
theorem dX6_handOver_120 : decode cX6_handOver 120 = .ok (.if_icmp .eq 27, 3) := by decide +kernel
theorem dX6_handOver_123 : decode cX6_handOver 123 = .ok (.aload_n 0, 1) := by decide +kernel
theorem dX6_handOver_124 : decode cX6_handOver 124 = .ok (.iload 6, 2) := by decide +kernel
theorem dX6_handOver_126 : decode cX6_handOver 126 = .ok (.iconst 3, 1) := by decide +kernel
theorem dX6_handOver_127 : decode cX6_handOver 127 = .ok (.invokevirtual 46, 3) := by decide +kernel
theorem dX6_handOver_130 : decode cX6_handOver 130 = .ok (.iload_n 3, 1) := by decide +kernel
theorem dX6_handOver_131 : decode cX6_handOver 131 = .ok (.iconst 1, 1) := by decide +kernel
theorem dX6_handOver_132 : decode cX6_handOver 132 = .ok (.iadd, 1) := by decide +kernel
theorem dX6_handOver_133 : decode cX6_handOver 133 = .ok (.if_icmp .ne 14, 3) := by decide +kernel
theorem dX6_handOver_136 : decode cX6_handOver 136 = .ok (.aload_n 0, 1) := by decide +kernel
theorem dX6_handOver_137 : decode cX6_handOver 137 = .ok (.iload 4, 2) := by decide +kernel
theorem dX6_handOver_139 : decode cX6_handOver 139 = .ok (.iload 6, 2) := by decide +kernel
theorem dX6_handOver_141 : decode cX6_handOver 141 = .ok (.iload_n 3, 1) := by decide +kernel
theorem dX6_handOver_142 : decode cX6_handOver 142 = .ok (.iconst 1, 1) := by decide +kernel
theorem dX6_handOver_143 : decode cX6_handOver 143 = .ok (.iadd, 1) := by decide +kernel
theorem dX6_handOver_144 : decode cX6_handOver 144 = .ok (.invokevirtual 138, 3) := by decide +kernel
theorem dX6_handOver_147 : decode cX6_handOver 147 = .ok (.iload 5, 2) := by decide +kernel
theorem dX6_handOver_149 : decode cX6_handOver 149 = .ok (.ireturn, 1) := by decide +kernel
set_option maxRecDepth 20000 in
theorem ggX6_singer_X6_ofSong : GoodIn wsX6_singer wsX6_ofSong := goodIn_r _ [5, 6, 36, 37, 38, 39, 40, 41, 42, 43, 44, 45, 46, 47, 48, 49] (by decide +kernel) (by decide +kernel)
set_option maxRecDepth 20000 in
theorem gX6_singer_X6_ofSong : GoodIn wsX6_singer (wsV RX6 151 RX6 yX6_ofSong wsX6_ofSong) := goodIn_app (goodIn_of _ (by decide +kernel)) ggX6_singer_X6_ofSong
set_option maxRecDepth 20000 in
theorem ggX6_singer_X6_plotAt : GoodIn wsX6_singer wsX6_plotAt := goodIn_r _ [10, 11, 12, 13, 4, 14, 15, 16, 17, 18, 6, 19, 20, 21, 22, 23, 24, 25, 26, 27, 28, 29, 30, 31, 32, 33, 34, 35, 36, 37, 38, 39, 40, 41, 42, 43, 44, 45, 46, 47, 48, 49] (by decide +kernel) (by decide +kernel)
set_option maxRecDepth 20000 in
theorem gX6_singer_X6_plotAt : GoodIn wsX6_singer (wsV RX6 83 RX6 yX6_plotAt wsX6_plotAt) := goodIn_app (goodIn_of _ (by decide +kernel)) ggX6_singer_X6_plotAt
set_option maxRecDepth 20000 in
theorem ggX6_singer_X6_ofPlot : GoodIn wsX6_singer wsX6_ofPlot := goodIn_r _ [18, 6, 36, 37, 38, 39, 40, 41, 42, 43, 44, 45, 46, 47, 48, 49] (by decide +kernel) (by decide +kernel)
set_option maxRecDepth 20000 in
theorem gX6_singer_X6_ofPlot : GoodIn wsX6_singer (wsV RX6 46 RX6 yX6_ofPlot wsX6_ofPlot) := goodIn_app (goodIn_of _ (by decide +kernel)) ggX6_singer_X6_ofPlot
theorem dX6_singer_0 : decode cX6_singer 0 = .ok (.aload_n 0, 1) := by decide +kernel
theorem dX6_singer_1 : decode cX6_singer 1 = .ok (.aload_n 0, 1) := by decide +kernel
theorem dX6_singer_2 : decode cX6_singer 2 = .ok (.aload_n 0, 1) := by decide +kernel
theorem dX6_singer_3 : decode cX6_singer 3 = .ok (.iload_n 1, 1) := by decide +kernel
theorem dX6_singer_4 : decode cX6_singer 4 = .ok (.iconst 0, 1) := by decide +kernel
theorem dX6_singer_5 : decode cX6_singer 5 = .ok (.invokevirtual 151, 3) := by decide +kernel
theorem dX6_singer_8 : decode cX6_singer 8 = .ok (.aload_n 0, 1) := by decide +kernel
theorem dX6_singer_9 : decode cX6_singer 9 = .ok (.iload_n 1, 1) := by decide +kernel
theorem dX6_singer_10 : decode cX6_singer 10 = .ok (.iconst 1, 1) := by decide +kernel
theorem dX6_singer_11 : decode cX6_singer 11 = .ok (.invokevirtual 151, 3) := by decide +kernel
theorem dX6_singer_14 : decode cX6_singer 14 = .ok (.invokevirtual 83, 3) := by decide +kernel
theorem dX6_singer_17 : decode cX6_singer 17 = .ok (.iconst 3, 1) := by decide +kernel
theorem dX6_singer_18 : decode cX6_singer 18 = .ok (.invokevirtual 46, 3) := by decide +kernel
theorem dX6_singer_21 : decode cX6_singer 21 = .ok (.istore_n 2, 1) := by decide +kernel
theorem dX6_singer_22 : decode cX6_singer 22 = .ok (.iload_n 2, 1) := by decide +kernel
theorem dX6_singer_23 : decode cX6_singer 23 = .ok (.ifCond .ne 8, 3) := by decide +kernel
theorem dX6_singer_26 : decode cX6_singer 26 = .ok (.bipush 100, 2) := by decide +kernel
theorem dX6_singer_28 : decode cX6_singer 28 = .ok (.goto 6, 3) := by decide +kernel
theorem dX6_singer_31 : decode cX6_singer 31 = .ok (.iload_n 2, 1) := by decide +kernel
theorem dX6_singer_32 : decode cX6_singer 32 = .ok (.iconst 1, 1) := by decide +kernel
theorem dX6_singer_33 : decode cX6_singer 33 = .ok (.isub, 1) := by decide +kernel
theorem dX6_singer_34 : decode cX6_singer 34 = .ok (.ireturn, 1) := by decide +kernel
theorem dX6_loud_0 : decode cX6_loud 0 = .ok (.iload_n 0, 1) := by decide +kernel
theorem dX6_loud_1 : decode cX6_loud 1 = .ok (.i2f, 1) := by decide +kernel
theorem dX6_loud_2 : decode cX6_loud 2 = .ok (.ldc 154, 2) := by decide +kernel
theorem dX6_loud_4 : decode cX6_loud 4 = .ok (.fdiv, 1) := by decide +kernel
theorem dX6_loud_5 : decode cX6_loud 5 = .ok (.freturn, 1) := by decide +kernel
set_option maxRecDepth 20000 in
theorem ggX6_lay_X6_isPoint : GoodIn wsX6_lay wsX6_isPoint := goodIn_r _ [6, 7, 8, 5, 9] (by decide +kernel) (by decide +kernel)
set_option maxRecDepth 20000 in
theorem gX6_lay_X6_isPoint : GoodIn wsX6_lay (va_wsS RX6 94 yX6_isPoint wsX6_isPoint) := goodIn_app (goodIn_of _ (by decide +kernel)) ggX6_lay_X6_isPoint
set_option maxRecDepth 20000 in
theorem ggX6_lay_X6_in : GoodIn wsX6_lay wsX6_in := goodIn_r _ [9] (by decide +kernel) (by decide +kernel)
set_option maxRecDepth 20000 in
theorem gX6_lay_X6_in : GoodIn wsX6_lay (va_wsS RX6 35 yX6_in wsX6_in) := goodIn_app (goodIn_of _ (by decide +kernel)) ggX6_lay_X6_in
set_option maxRecDepth 20000 in
theorem ggX6_lay_X6_records : GoodIn wsX6_lay wsX6_records := goodIn_r _ [13, 14, 15, 2, 16, 17, 18, 19, 20, 21, 22, 23, 24, 25, 26, 27, 28, 29] (by decide +kernel) (by decide +kernel)
set_option maxRecDepth 20000 in
theorem gX6_lay_X6_records : GoodIn wsX6_lay (wsV RX6 100 RX6 yX6_records wsX6_records) := goodIn_app (goodIn_of _ (by decide +kernel)) ggX6_lay_X6_records
theorem dX6_lay_0 : decode cX6_lay 0 = .ok (.aload_n 0, 1) := by decide +kernel
theorem dX6_lay_1 : decode cX6_lay 1 = .ok (.iconst 0, 1) := by decide +kernel
theorem dX6_lay_2 : decode cX6_lay 2 = .ok (.putfield 31, 3) := by decide +kernel
theorem dX6_lay_5 : decode cX6_lay 5 = .ok (.iload_n 1, 1) := by decide +kernel
theorem dX6_lay_6 : decode cX6_lay 6 = .ok (.iload_n 2, 1) := by decide +kernel
theorem dX6_lay_7 : decode cX6_lay 7 = .ok (.invokestatic 94, 3) := by decide +kernel
theorem dX6_lay_10 : decode cX6_lay 10 = .ok (.ifCond .ne 5, 3) := by decide +kernel
theorem dX6_lay_13 : decode cX6_lay 13 = .ok (.iconst (-1), 1) := by decide +kernel
theorem dX6_lay_14 : decode cX6_lay 14 = .ok (.ireturn, 1) := by decide +kernel
theorem dX6_lay_15 : decode cX6_lay 15 = .ok (.iload_n 3, 1) := by decide +kernel
theorem dX6_lay_16 : decode cX6_lay 16 = .ok (.iconst 1, 1) := by decide +kernel
theorem dX6_lay_17 : decode cX6_lay 17 = .ok (.sipush 999, 3) := by decide +kernel
theorem dX6_lay_20 : decode cX6_lay 20 = .ok (.invokestatic 35, 3) := by decide +kernel
theorem dX6_lay_23 : decode cX6_lay 23 = .ok (.ifCond .ne 6, 3) := by decide +kernel
theorem dX6_lay_26 : decode cX6_lay 26 = .ok (.bipush (-2), 2) := by decide +kernel
theorem dX6_lay_28 : decode cX6_lay 28 = .ok (.ireturn, 1) := by decide +kernel
theorem dX6_lay_29 : decode cX6_lay 29 = .ok (.aload_n 0, 1) := by decide +kernel
theorem dX6_lay_30 : decode cX6_lay 30 = .ok (.getfield 7, 3) := by decide +kernel
theorem dX6_lay_33 : decode cX6_lay 33 = .ok (.iconst 2, 1) := by decide +kernel
theorem dX6_lay_34 : decode cX6_lay 34 = .ok (.iaload, 1) := by decide +kernel
theorem dX6_lay_35 : decode cX6_lay 35 = .ok (.bipush 20, 2) := by decide +kernel
theorem dX6_lay_37 : decode cX6_lay 37 = .ok (.if_icmp .ne 6, 3) := by decide +kernel
theorem dX6_lay_40 : decode cX6_lay 40 = .ok (.bipush (-3), 2) := by decide +kernel
theorem dX6_lay_42 : decode cX6_lay 42 = .ok (.ireturn, 1) := by decide +kernel
theorem dX6_lay_43 : decode cX6_lay 43 = .ok (.aload_n 0, 1) := by decide +kernel
theorem dX6_lay_44 : decode cX6_lay 44 = .ok (.invokevirtual 100, 3) := by decide +kernel
theorem dX6_lay_47 : decode cX6_lay 47 = .ok (.aload_n 0, 1) := by decide +kernel
theorem dX6_lay_48 : decode cX6_lay 48 = .ok (.getfield 7, 3) := by decide +kernel
theorem dX6_lay_51 : decode cX6_lay 51 = .ok (.iconst 2, 1) := by decide +kernel
theorem dX6_lay_52 : decode cX6_lay 52 = .ok (.iaload, 1) := by decide +kernel
theorem dX6_lay_53 : decode cX6_lay 53 = .ok (.istore 4, 2) := by decide +kernel
theorem dX6_lay_55 : decode cX6_lay 55 = .ok (.aload_n 0, 1) := by decide +kernel
theorem dX6_lay_56 : decode cX6_lay 56 = .ok (.getfield 7, 3) := by decide +kernel
theorem dX6_lay_59 : decode cX6_lay 59 = .ok (.sipush 826, 3) := by decide +kernel
theorem dX6_lay_62 : decode cX6_lay 62 = .ok (.iconst 3, 1) := by decide +kernel
theorem dX6_lay_63 : decode cX6_lay 63 = .ok (.iload 4, 2) := by decide +kernel
theorem dX6_lay_65 : decode cX6_lay 65 = .ok (.imul, 1) := by decide +kernel
theorem dX6_lay_66 : decode cX6_lay 66 = .ok (.iadd, 1) := by decide +kernel
theorem dX6_lay_67 : decode cX6_lay 67 = .ok (.iconst 0, 1) := by decide +kernel
theorem dX6_lay_68 : decode cX6_lay 68 = .ok (.iadd, 1) := by decide +kernel
theorem dX6_lay_69 : decode cX6_lay 69 = .ok (.iload_n 1, 1) := by decide +kernel
theorem dX6_lay_70 : decode cX6_lay 70 = .ok (.iastore, 1) := by decide +kernel
theorem dX6_lay_71 : decode cX6_lay 71 = .ok (.aload_n 0, 1) := by decide +kernel
theorem dX6_lay_72 : decode cX6_lay 72 = .ok (.getfield 7, 3) := by decide +kernel
theorem dX6_lay_75 : decode cX6_lay 75 = .ok (.sipush 826, 3) := by decide +kernel
theorem dX6_lay_78 : decode cX6_lay 78 = .ok (.iconst 3, 1) := by decide +kernel
theorem dX6_lay_79 : decode cX6_lay 79 = .ok (.iload 4, 2) := by decide +kernel
theorem dX6_lay_81 : decode cX6_lay 81 = .ok (.imul, 1) := by decide +kernel
theorem dX6_lay_82 : decode cX6_lay 82 = .ok (.iadd, 1) := by decide +kernel
theorem dX6_lay_83 : decode cX6_lay 83 = .ok (.iconst 1, 1) := by decide +kernel
theorem dX6_lay_84 : decode cX6_lay 84 = .ok (.iadd, 1) := by decide +kernel
theorem dX6_lay_85 : decode cX6_lay 85 = .ok (.iload_n 2, 1) := by decide +kernel
theorem dX6_lay_86 : decode cX6_lay 86 = .ok (.iastore, 1) := by decide +kernel
theorem dX6_lay_87 : decode cX6_lay 87 = .ok (.aload_n 0, 1) := by decide +kernel
theorem dX6_lay_88 : decode cX6_lay 88 = .ok (.getfield 7, 3) := by decide +kernel
theorem dX6_lay_91 : decode cX6_lay 91 = .ok (.sipush 826, 3) := by decide +kernel
theorem dX6_lay_94 : decode cX6_lay 94 = .ok (.iconst 3, 1) := by decide +kernel
theorem dX6_lay_95 : decode cX6_lay 95 = .ok (.iload 4, 2) := by decide +kernel
theorem dX6_lay_97 : decode cX6_lay 97 = .ok (.imul, 1) := by decide +kernel
theorem dX6_lay_98 : decode cX6_lay 98 = .ok (.iadd, 1) := by decide +kernel
theorem dX6_lay_99 : decode cX6_lay 99 = .ok (.iconst 2, 1) := by decide +kernel
theorem dX6_lay_100 : decode cX6_lay 100 = .ok (.iadd, 1) := by decide +kernel
theorem dX6_lay_101 : decode cX6_lay 101 = .ok (.iload_n 3, 1) := by decide +kernel
theorem dX6_lay_102 : decode cX6_lay 102 = .ok (.iastore, 1) := by decide +kernel
theorem dX6_lay_103 : decode cX6_lay 103 = .ok (.aload_n 0, 1) := by decide +kernel
theorem dX6_lay_104 : decode cX6_lay 104 = .ok (.getfield 7, 3) := by decide +kernel
theorem dX6_lay_107 : decode cX6_lay 107 = .ok (.iconst 2, 1) := by decide +kernel
theorem dX6_lay_108 : decode cX6_lay 108 = .ok (.dup2, 1) := by decide +kernel
theorem dX6_lay_109 : decode cX6_lay 109 = .ok (.iaload, 1) := by decide +kernel
theorem dX6_lay_110 : decode cX6_lay 110 = .ok (.iconst 1, 1) := by decide +kernel
theorem dX6_lay_111 : decode cX6_lay 111 = .ok (.iadd, 1) := by decide +kernel
theorem dX6_lay_112 : decode cX6_lay 112 = .ok (.iastore, 1) := by decide +kernel
theorem dX6_lay_113 : decode cX6_lay 113 = .ok (.iload 4, 2) := by decide +kernel
theorem dX6_lay_115 : decode cX6_lay 115 = .ok (.ireturn, 1) := by decide +kernel
set_option maxRecDepth 20000 in
theorem ggX6_isSong_X6_in : GoodIn wsX6_isSong wsX6_in := goodIn_r _ [5] (by decide +kernel) (by decide +kernel)
set_option maxRecDepth 20000 in
theorem gX6_isSong_X6_in : GoodIn wsX6_isSong (va_wsS RX6 35 yX6_in wsX6_in) := goodIn_app (goodIn_of _ (by decide +kernel)) ggX6_isSong_X6_in
theorem dX6_isSong_0 : decode cX6_isSong 0 = .ok (.iload_n 1, 1) := by decide +kernel
theorem dX6_isSong_1 : decode cX6_isSong 1 = .ok (.iconst 0, 1) := by decide +kernel
theorem dX6_isSong_2 : decode cX6_isSong 2 = .ok (.aload_n 0, 1) := by decide +kernel
theorem dX6_isSong_3 : decode cX6_isSong 3 = .ok (.getfield 7, 3) := by decide +kernel
theorem dX6_isSong_6 : decode cX6_isSong 6 = .ok (.iconst 2, 1) := by decide +kernel
theorem dX6_isSong_7 : decode cX6_isSong 7 = .ok (.iaload, 1) := by decide +kernel
theorem dX6_isSong_8 : decode cX6_isSong 8 = .ok (.iconst 1, 1) := by decide +kernel
theorem dX6_isSong_9 : decode cX6_isSong 9 = .ok (.isub, 1) := by decide +kernel
theorem dX6_isSong_10 : decode cX6_isSong 10 = .ok (.invokestatic 35, 3) := by decide +kernel
theorem dX6_isSong_13 : decode cX6_isSong 13 = .ok (.ireturn, 1) := by decide +kernel
set_option maxRecDepth 20000 in
theorem ggX6_carry_X6_isSong : GoodIn wsX6_carry wsX6_isSong := goodIn_r _ [7, 2, 8, 9, 6, 10, 54, 55, 56, 57, 58, 59, 60, 61, 62, 63, 64, 65, 66, 67] (by decide +kernel) (by decide +kernel)
set_option maxRecDepth 20000 in
theorem gX6_carry_X6_isSong : GoodIn wsX6_carry (wsV RX6 155 RX6 yX6_isSong wsX6_isSong) := goodIn_app (goodIn_of _ (by decide +kernel)) ggX6_carry_X6_isSong
set_option maxRecDepth 20000 in
theorem ggX6_carry_X6_isPoint : GoodIn wsX6_carry wsX6_isPoint := goodIn_r _ [13, 8, 9, 6, 10] (by decide +kernel) (by decide +kernel)
set_option maxRecDepth 20000 in
theorem gX6_carry_X6_isPoint : GoodIn wsX6_carry (va_wsS RX6 94 yX6_isPoint wsX6_isPoint) := goodIn_app (goodIn_of _ (by decide +kernel)) ggX6_carry_X6_isPoint
set_option maxRecDepth 20000 in
theorem ggX6_carry_X6_ofSong : GoodIn wsX6_carry wsX6_ofSong := goodIn_r _ [17, 2, 54, 55, 56, 57, 58, 59, 60, 61, 62, 63, 64, 65, 66, 67] (by decide +kernel) (by decide +kernel)
set_option maxRecDepth 20000 in
theorem gX6_carry_X6_ofSong : GoodIn wsX6_carry (wsV RX6 151 RX6 yX6_ofSong wsX6_ofSong) := goodIn_app (goodIn_of _ (by decide +kernel)) ggX6_carry_X6_ofSong
set_option maxRecDepth 20000 in
theorem ggX6_carry_X6_records : GoodIn wsX6_carry wsX6_records := goodIn_r _ [21, 22, 23, 2, 54, 55, 56, 57, 58, 59, 60, 61, 62, 63, 64, 65, 66, 67] (by decide +kernel) (by decide +kernel)
set_option maxRecDepth 20000 in
theorem gX6_carry_X6_records : GoodIn wsX6_carry (wsV RX6 100 RX6 yX6_records wsX6_records) := goodIn_app (goodIn_of _ (by decide +kernel)) ggX6_carry_X6_records
set_option maxRecDepth 20000 in
theorem ggX6_carry_X6_singer : GoodIn wsX6_carry wsX6_singer := goodIn_r _ [27, 14, 15, 16, 6, 17, 2, 28, 29, 30, 31, 32, 33, 34, 35, 36, 37, 38, 39, 40, 41, 42, 43, 44, 45, 46, 8, 9, 10, 47, 48, 49, 50, 51, 52, 53, 54, 55, 56, 57, 58, 59, 60, 61, 62, 63, 64, 65, 66, 67] (by decide +kernel) (by decide +kernel)
set_option maxRecDepth 20000 in
theorem gX6_carry_X6_singer : GoodIn wsX6_carry (wsV RX6 158 RX6 yX6_singer wsX6_singer) := goodIn_app (goodIn_of _ (by decide +kernel)) ggX6_carry_X6_singer
theorem dX6_carry_0 : decode cX6_carry 0 = .ok (.aload_n 0, 1) := by decide +kernel
theorem dX6_carry_1 : decode cX6_carry 1 = .ok (.iconst 0, 1) := by decide +kernel
theorem dX6_carry_2 : decode cX6_carry 2 = .ok (.putfield 31, 3) := by decide +kernel
theorem dX6_carry_5 : decode cX6_carry 5 = .ok (.aload_n 0, 1) := by decide +kernel
theorem dX6_carry_6 : decode cX6_carry 6 = .ok (.iload_n 1, 1) := by decide +kernel
theorem dX6_carry_7 : decode cX6_carry 7 = .ok (.invokevirtual 155, 3) := by decide +kernel
theorem dX6_carry_10 : decode cX6_carry 10 = .ok (.ifCond .eq 11, 3) := by decide +kernel
theorem dX6_carry_13 : decode cX6_carry 13 = .ok (.iload_n 2, 1) := by decide +kernel
theorem dX6_carry_14 : decode cX6_carry 14 = .ok (.iload_n 3, 1) := by decide +kernel
theorem dX6_carry_15 : decode cX6_carry 15 = .ok (.invokestatic 94, 3) := by decide +kernel
theorem dX6_carry_18 : decode cX6_carry 18 = .ok (.ifCond .ne 5, 3) := by decide +kernel
theorem dX6_carry_21 : decode cX6_carry 21 = .ok (.iconst (-1), 1) := by decide +kernel
theorem dX6_carry_22 : decode cX6_carry 22 = .ok (.ireturn, 1) := by decide +kernel
theorem dX6_carry_23 : decode cX6_carry 23 = .ok (.aload_n 0, 1) := by decide +kernel
theorem dX6_carry_24 : decode cX6_carry 24 = .ok (.iload_n 1, 1) := by decide +kernel
theorem dX6_carry_25 : decode cX6_carry 25 = .ok (.iconst 0, 1) := by decide +kernel
theorem dX6_carry_26 : decode cX6_carry 26 = .ok (.invokevirtual 151, 3) := by decide +kernel
theorem dX6_carry_29 : decode cX6_carry 29 = .ok (.iload_n 2, 1) := by decide +kernel
theorem dX6_carry_30 : decode cX6_carry 30 = .ok (.if_icmp .ne 16, 3) := by decide +kernel
theorem dX6_carry_33 : decode cX6_carry 33 = .ok (.aload_n 0, 1) := by decide +kernel
theorem dX6_carry_34 : decode cX6_carry 34 = .ok (.iload_n 1, 1) := by decide +kernel
theorem dX6_carry_35 : decode cX6_carry 35 = .ok (.iconst 1, 1) := by decide +kernel
theorem dX6_carry_36 : decode cX6_carry 36 = .ok (.invokevirtual 151, 3) := by decide +kernel
theorem dX6_carry_39 : decode cX6_carry 39 = .ok (.iload_n 3, 1) := by decide +kernel
theorem dX6_carry_40 : decode cX6_carry 40 = .ok (.if_icmp .ne 6, 3) := by decide +kernel
theorem dX6_carry_43 : decode cX6_carry 43 = .ok (.bipush (-5), 2) := by decide +kernel
theorem dX6_carry_45 : decode cX6_carry 45 = .ok (.ireturn, 1) := by decide +kernel
theorem dX6_carry_46 : decode cX6_carry 46 = .ok (.aload_n 0, 1) := by decide +kernel
theorem dX6_carry_47 : decode cX6_carry 47 = .ok (.invokevirtual 100, 3) := by decide +kernel
theorem dX6_carry_50 : decode cX6_carry 50 = .ok (.aload_n 0, 1) := by decide +kernel
theorem dX6_carry_51 : decode cX6_carry 51 = .ok (.getfield 7, 3) := by decide +kernel
theorem dX6_carry_54 : decode cX6_carry 54 = .ok (.sipush 826, 3) := by decide +kernel
theorem dX6_carry_57 : decode cX6_carry 57 = .ok (.iconst 3, 1) := by decide +kernel
theorem dX6_carry_58 : decode cX6_carry 58 = .ok (.iload_n 1, 1) := by decide +kernel
theorem dX6_carry_59 : decode cX6_carry 59 = .ok (.imul, 1) := by decide +kernel
theorem dX6_carry_60 : decode cX6_carry 60 = .ok (.iadd, 1) := by decide +kernel
theorem dX6_carry_61 : decode cX6_carry 61 = .ok (.iconst 0, 1) := by decide +kernel
theorem dX6_carry_62 : decode cX6_carry 62 = .ok (.iadd, 1) := by decide +kernel
theorem dX6_carry_63 : decode cX6_carry 63 = .ok (.iload_n 2, 1) := by decide +kernel
theorem dX6_carry_64 : decode cX6_carry 64 = .ok (.iastore, 1) := by decide +kernel
theorem dX6_carry_65 : decode cX6_carry 65 = .ok (.aload_n 0, 1) := by decide +kernel
theorem dX6_carry_66 : decode cX6_carry 66 = .ok (.getfield 7, 3) := by decide +kernel
theorem dX6_carry_69 : decode cX6_carry 69 = .ok (.sipush 826, 3) := by decide +kernel
theorem dX6_carry_72 : decode cX6_carry 72 = .ok (.iconst 3, 1) := by decide +kernel
theorem dX6_carry_73 : decode cX6_carry 73 = .ok (.iload_n 1, 1) := by decide +kernel
theorem dX6_carry_74 : decode cX6_carry 74 = .ok (.imul, 1) := by decide +kernel
theorem dX6_carry_75 : decode cX6_carry 75 = .ok (.iadd, 1) := by decide +kernel
theorem dX6_carry_76 : decode cX6_carry 76 = .ok (.iconst 1, 1) := by decide +kernel
theorem dX6_carry_77 : decode cX6_carry 77 = .ok (.iadd, 1) := by decide +kernel
theorem dX6_carry_78 : decode cX6_carry 78 = .ok (.iload_n 3, 1) := by decide +kernel
theorem dX6_carry_79 : decode cX6_carry 79 = .ok (.iastore, 1) := by decide +kernel
theorem dX6_carry_80 : decode cX6_carry 80 = .ok (.aload_n 0, 1) := by decide +kernel
theorem dX6_carry_81 : decode cX6_carry 81 = .ok (.iload_n 1, 1) := by decide +kernel
theorem dX6_carry_82 : decode cX6_carry 82 = .ok (.invokevirtual 158, 3) := by decide +kernel
theorem dX6_carry_85 : decode cX6_carry 85 = .ok (.ireturn, 1) := by decide +kernel
theorem dX6_type_0 : decode cX6_type 0 = .ok (.aload_n 0, 1) := by decide +kernel
theorem dX6_type_1 : decode cX6_type 1 = .ok (.iconst 0, 1) := by decide +kernel
theorem dX6_type_2 : decode cX6_type 2 = .ok (.putfield 31, 3) := by decide +kernel
theorem dX6_type_5 : decode cX6_type 5 = .ok (.aload_n 0, 1) := by decide +kernel
theorem dX6_type_6 : decode cX6_type 6 = .ok (.getfield 161, 3) := by decide +kernel
theorem dX6_type_9 : decode cX6_type 9 = .ok (.bipush 60, 2) := by decide +kernel
theorem dX6_type_11 : decode cX6_type 11 = .ok (.if_icmp .ne 6, 3) := by decide +kernel
theorem dX6_type_14 : decode cX6_type 14 = .ok (.bipush (-3), 2) := by decide +kernel
theorem dX6_type_16 : decode cX6_type 16 = .ok (.ireturn, 1) := by decide +kernel
theorem dX6_type_17 : decode cX6_type 17 = .ok (.aload_n 0, 1) := by decide +kernel
theorem dX6_type_18 : decode cX6_type 18 = .ok (.getfield 22, 3) := by decide +kernel
theorem dX6_type_21 : decode cX6_type 21 = .ok (.aload_n 0, 1) := by decide +kernel
theorem dX6_type_22 : decode cX6_type 22 = .ok (.getfield 161, 3) := by decide +kernel
theorem dX6_type_25 : decode cX6_type 25 = .ok (.iload_n 1, 1) := by decide +kernel
theorem dX6_type_26 : decode cX6_type 26 = .ok (.iastore, 1) := by decide +kernel
theorem dX6_type_27 : decode cX6_type 27 = .ok (.aload_n 0, 1) := by decide +kernel
theorem dX6_type_28 : decode cX6_type 28 = .ok (.dup, 1) := by decide +kernel
theorem dX6_type_29 : decode cX6_type 29 = .ok (.getfield 161, 3) := by decide +kernel
theorem dX6_type_32 : decode cX6_type 32 = .ok (.iconst 1, 1) := by decide +kernel
theorem dX6_type_33 : decode cX6_type 33 = .ok (.iadd, 1) := by decide +kernel
theorem dX6_type_34 : decode cX6_type 34 = .ok (.putfield 161, 3) := by decide +kernel
theorem dX6_type_37 : decode cX6_type 37 = .ok (.aload_n 0, 1) := by decide +kernel
theorem dX6_type_38 : decode cX6_type 38 = .ok (.getfield 161, 3) := by decide +kernel
theorem dX6_type_41 : decode cX6_type 41 = .ok (.ireturn, 1) := by decide +kernel
theorem dX6_clearText_0 : decode cX6_clearText 0 = .ok (.aload_n 0, 1) := by decide +kernel
theorem dX6_clearText_1 : decode cX6_clearText 1 = .ok (.iconst 0, 1) := by decide +kernel
theorem dX6_clearText_2 : decode cX6_clearText 2 = .ok (.putfield 31, 3) := by decide +kernel
theorem dX6_clearText_5 : decode cX6_clearText 5 = .ok (.aload_n 0, 1) := by decide +kernel
theorem dX6_clearText_6 : decode cX6_clearText 6 = .ok (.getfield 161, 3) := by decide +kernel
theorem dX6_clearText_9 : decode cX6_clearText 9 = .ok (.istore_n 1, 1) := by decide +kernel
theorem dX6_clearText_10 : decode cX6_clearText 10 = .ok (.aload_n 0, 1) := by decide +kernel
theorem dX6_clearText_11 : decode cX6_clearText 11 = .ok (.iconst 0, 1) := by decide +kernel
theorem dX6_clearText_12 : decode cX6_clearText 12 = .ok (.putfield 161, 3) := by decide +kernel
theorem dX6_clearText_15 : decode cX6_clearText 15 = .ok (.iload_n 1, 1) := by decide +kernel
theorem dX6_clearText_16 : decode cX6_clearText 16 = .ok (.ireturn, 1) := by decide +kernel
theorem dX6_sign_0 : decode cX6_sign 0 = .ok (.aload_n 0, 1) := by decide +kernel
theorem dX6_sign_1 : decode cX6_sign 1 = .ok (.getfield 164, 3) := by decide +kernel
theorem dX6_sign_4 : decode cX6_sign 4 = .ok (.aload_n 0, 1) := by decide +kernel
theorem dX6_sign_5 : decode cX6_sign 5 = .ok (.getfield 161, 3) := by decide +kernel
theorem dX6_sign_8 : decode cX6_sign 8 = .ok (.if_icmp .ge 15, 3) := by decide +kernel
theorem dX6_sign_11 : decode cX6_sign 11 = .ok (.aload_n 0, 1) := by decide +kernel
theorem dX6_sign_12 : decode cX6_sign 12 = .ok (.getfield 22, 3) := by decide +kernel
theorem dX6_sign_15 : decode cX6_sign 15 = .ok (.aload_n 0, 1) := by decide +kernel
theorem dX6_sign_16 : decode cX6_sign 16 = .ok (.getfield 164, 3) := by decide +kernel
theorem dX6_sign_19 : decode cX6_sign 19 = .ok (.iaload, 1) := by decide +kernel
theorem dX6_sign_20 : decode cX6_sign 20 = .ok (.goto 4, 3) := by decide +kernel
theorem dX6_sign_23 : decode cX6_sign 23 = .ok (.iconst 0, 1) := by decide +kernel
theorem dX6_sign_24 : decode cX6_sign 24 = .ok (.ireturn, 1) := by decide +kernel
set_option maxRecDepth 20000 in
theorem ggX6_wants_X6_sign : GoodIn wsX6_wants wsX6_sign := goodIn_r _ [7, 2, 8, 9, 10, 11, 12, 13, 14, 15, 16, 17, 18, 19, 20, 21, 22, 23] (by decide +kernel) (by decide +kernel)
set_option maxRecDepth 20000 in
theorem gX6_wants_X6_sign : GoodIn wsX6_wants (wsV RX6 171 RX6 yX6_sign wsX6_sign) := goodIn_app (goodIn_of _ (by decide +kernel)) ggX6_wants_X6_sign
theorem dX6_wants_0 : decode cX6_wants 0 = .ok (.aload_n 0, 1) := by decide +kernel
theorem dX6_wants_1 : decode cX6_wants 1 = .ok (.aload_n 0, 1) := by decide +kernel
theorem dX6_wants_2 : decode cX6_wants 2 = .ok (.getfield 167, 3) := by decide +kernel
theorem dX6_wants_5 : decode cX6_wants 5 = .ok (.ifCond .eq 15, 3) := by decide +kernel
theorem dX6_wants_8 : decode cX6_wants 8 = .ok (.aload_n 0, 1) := by decide +kernel
theorem dX6_wants_9 : decode cX6_wants 9 = .ok (.invokevirtual 171, 3) := by decide +kernel
theorem dX6_wants_12 : decode cX6_wants 12 = .ok (.iload_n 1, 1) := by decide +kernel
theorem dX6_wants_13 : decode cX6_wants 13 = .ok (.if_icmp .ne 7, 3) := by decide +kernel
theorem dX6_wants_16 : decode cX6_wants 16 = .ok (.iconst 1, 1) := by decide +kernel
theorem dX6_wants_17 : decode cX6_wants 17 = .ok (.goto 4, 3) := by decide +kernel
theorem dX6_wants_20 : decode cX6_wants 20 = .ok (.iconst 0, 1) := by decide +kernel
theorem dX6_wants_21 : decode cX6_wants 21 = .ok (.putfield 167, 3) := by decide +kernel
theorem dX6_wants_24 : decode cX6_wants 24 = .ok (.aload_n 0, 1) := by decide +kernel
theorem dX6_wants_25 : decode cX6_wants 25 = .ok (.dup, 1) := by decide +kernel
theorem dX6_wants_26 : decode cX6_wants 26 = .ok (.getfield 164, 3) := by decide +kernel
theorem dX6_wants_29 : decode cX6_wants 29 = .ok (.aload_n 0, 1) := by decide +kernel
theorem dX6_wants_30 : decode cX6_wants 30 = .ok (.getfield 167, 3) := by decide +kernel
theorem dX6_wants_33 : decode cX6_wants 33 = .ok (.ifCond .eq 7, 3) := by decide +kernel
theorem dX6_wants_36 : decode cX6_wants 36 = .ok (.iconst 1, 1) := by decide +kernel
theorem dX6_wants_37 : decode cX6_wants 37 = .ok (.goto 4, 3) := by decide +kernel
theorem dX6_wants_40 : decode cX6_wants 40 = .ok (.iconst 0, 1) := by decide +kernel
theorem dX6_wants_41 : decode cX6_wants 41 = .ok (.iadd, 1) := by decide +kernel
theorem dX6_wants_42 : decode cX6_wants 42 = .ok (.putfield 164, 3) := by decide +kernel
theorem dX6_wants_45 : decode cX6_wants 45 = .ok (.return_, 1) := by decide +kernel
set_option maxRecDepth 20000 in
theorem ggX6_number_X6_sign : GoodIn wsX6_number wsX6_sign := goodIn_r _ [7, 2, 8, 9, 13, 14, 15, 16, 17, 18, 19, 20, 21, 22, 23, 24, 25, 26] (by decide +kernel) (by decide +kernel)
set_option maxRecDepth 20000 in
theorem gX6_number_X6_sign : GoodIn wsX6_number (wsV RX6 171 RX6 yX6_sign wsX6_sign) := goodIn_app (goodIn_of _ (by decide +kernel)) ggX6_number_X6_sign
set_option maxRecDepth 20000 in
theorem ggX6_number_X6_in : GoodIn wsX6_number wsX6_in := goodIn_r _ [12] (by decide +kernel) (by decide +kernel)
set_option maxRecDepth 20000 in
theorem gX6_number_X6_in : GoodIn wsX6_number (va_wsS RX6 35 yX6_in wsX6_in) := goodIn_app (goodIn_of _ (by decide +kernel)) ggX6_number_X6_in
theorem dX6_number_0 : decode cX6_number 0 = .ok (.aload_n 0, 1) := by decide +kernel
theorem dX6_number_1 : decode cX6_number 1 = .ok (.aload_n 0, 1) := by decide +kernel
theorem dX6_number_2 : decode cX6_number 2 = .ok (.getfield 167, 3) := by decide +kernel
theorem dX6_number_5 : decode cX6_number 5 = .ok (.ifCond .eq 21, 3) := by decide +kernel
theorem dX6_number_8 : decode cX6_number 8 = .ok (.aload_n 0, 1) := by decide +kernel
theorem dX6_number_9 : decode cX6_number 9 = .ok (.invokevirtual 171, 3) := by decide +kernel
theorem dX6_number_12 : decode cX6_number 12 = .ok (.bipush 48, 2) := by decide +kernel
theorem dX6_number_14 : decode cX6_number 14 = .ok (.bipush 57, 2) := by decide +kernel
theorem dX6_number_16 : decode cX6_number 16 = .ok (.invokestatic 35, 3) := by decide +kernel
theorem dX6_number_19 : decode cX6_number 19 = .ok (.ifCond .eq 7, 3) := by decide +kernel
theorem dX6_number_22 : decode cX6_number 22 = .ok (.iconst 1, 1) := by decide +kernel
theorem dX6_number_23 : decode cX6_number 23 = .ok (.goto 4, 3) := by decide +kernel
theorem dX6_number_26 : decode cX6_number 26 = .ok (.iconst 0, 1) := by decide +kernel
theorem dX6_number_27 : decode cX6_number 27 = .ok (.putfield 167, 3) := by decide +kernel
theorem dX6_number_30 : decode cX6_number 30 = .ok (.aload_n 0, 1) := by decide +kernel
theorem dX6_number_31 : decode cX6_number 31 = .ok (.invokevirtual 171, 3) := by decide +kernel
theorem dX6_number_34 : decode cX6_number 34 = .ok (.bipush 48, 2) := by decide +kernel
theorem dX6_number_36 : decode cX6_number 36 = .ok (.isub, 1) := by decide +kernel
theorem dX6_number_37 : decode cX6_number 37 = .ok (.istore_n 1, 1) := by decide +kernel
theorem dX6_number_38 : decode cX6_number 38 = .ok (.aload_n 0, 1) := by decide +kernel
theorem dX6_number_39 : decode cX6_number 39 = .ok (.dup, 1) := by decide +kernel
theorem dX6_number_40 : decode cX6_number 40 = .ok (.getfield 164, 3) := by decide +kernel
theorem dX6_number_43 : decode cX6_number 43 = .ok (.aload_n 0, 1) := by decide +kernel
theorem dX6_number_44 : decode cX6_number 44 = .ok (.getfield 167, 3) := by decide +kernel
theorem dX6_number_47 : decode cX6_number 47 = .ok (.ifCond .eq 7, 3) := by decide +kernel
theorem dX6_number_50 : decode cX6_number 50 = .ok (.iconst 1, 1) := by decide +kernel
theorem dX6_number_51 : decode cX6_number 51 = .ok (.goto 4, 3) := by decide +kernel
theorem dX6_number_54 : decode cX6_number 54 = .ok (.iconst 0, 1) := by decide +kernel
theorem dX6_number_55 : decode cX6_number 55 = .ok (.iadd, 1) := by decide +kernel
theorem dX6_number_56 : decode cX6_number 56 = .ok (.putfield 164, 3) := by decide +kernel
theorem dX6_number_59 : decode cX6_number 59 = .ok (.aload_n 0, 1) := by decide +kernel
theorem dX6_number_60 : decode cX6_number 60 = .ok (.getfield 167, 3) := by decide +kernel
theorem dX6_number_63 : decode cX6_number 63 = .ok (.ifCond .eq 61, 3) := by decide +kernel
theorem dX6_number_66 : decode cX6_number 66 = .ok (.iload_n 1, 1) := by decide +kernel
theorem dX6_number_67 : decode cX6_number 67 = .ok (.ifCond .le 57, 3) := by decide +kernel
theorem dX6_number_70 : decode cX6_number 70 = .ok (.aload_n 0, 1) := by decide +kernel
theorem dX6_number_71 : decode cX6_number 71 = .ok (.invokevirtual 171, 3) := by decide +kernel
theorem dX6_number_74 : decode cX6_number 74 = .ok (.bipush 48, 2) := by decide +kernel
theorem dX6_number_76 : decode cX6_number 76 = .ok (.bipush 57, 2) := by decide +kernel
theorem dX6_number_78 : decode cX6_number 78 = .ok (.invokestatic 35, 3) := by decide +kernel
theorem dX6_number_81 : decode cX6_number 81 = .ok (.ifCond .eq 43, 3) := by decide +kernel
theorem dX6_number_84 : decode cX6_number 84 = .ok (.bipush 10, 2) := by decide +kernel
theorem dX6_number_86 : decode cX6_number 86 = .ok (.iload_n 1, 1) := by decide +kernel
theorem dX6_number_87 : decode cX6_number 87 = .ok (.imul, 1) := by decide +kernel
theorem dX6_number_88 : decode cX6_number 88 = .ok (.aload_n 0, 1) := by decide +kernel
theorem dX6_number_89 : decode cX6_number 89 = .ok (.invokevirtual 171, 3) := by decide +kernel
theorem dX6_number_92 : decode cX6_number 92 = .ok (.iadd, 1) := by decide +kernel
theorem dX6_number_93 : decode cX6_number 93 = .ok (.bipush 48, 2) := by decide +kernel
theorem dX6_number_95 : decode cX6_number 95 = .ok (.isub, 1) := by decide +kernel
theorem dX6_number_96 : decode cX6_number 96 = .ok (.bipush 64, 2) := by decide +kernel
theorem dX6_number_98 : decode cX6_number 98 = .ok (.if_icmp .ge 26, 3) := by decide +kernel
theorem dX6_number_101 : decode cX6_number 101 = .ok (.bipush 10, 2) := by decide +kernel
theorem dX6_number_103 : decode cX6_number 103 = .ok (.iload_n 1, 1) := by decide +kernel
theorem dX6_number_104 : decode cX6_number 104 = .ok (.imul, 1) := by decide +kernel
theorem dX6_number_105 : decode cX6_number 105 = .ok (.aload_n 0, 1) := by decide +kernel
theorem dX6_number_106 : decode cX6_number 106 = .ok (.invokevirtual 171, 3) := by decide +kernel
theorem dX6_number_109 : decode cX6_number 109 = .ok (.iadd, 1) := by decide +kernel
theorem dX6_number_110 : decode cX6_number 110 = .ok (.bipush 48, 2) := by decide +kernel
theorem dX6_number_112 : decode cX6_number 112 = .ok (.isub, 1) := by decide +kernel
theorem dX6_number_113 : decode cX6_number 113 = .ok (.istore_n 1, 1) := by decide +kernel
theorem dX6_number_114 : decode cX6_number 114 = .ok (.aload_n 0, 1) := by decide +kernel
theorem dX6_number_115 : decode cX6_number 115 = .ok (.dup, 1) := by decide +kernel
theorem dX6_number_116 : decode cX6_number 116 = .ok (.getfield 164, 3) := by decide +kernel
theorem dX6_number_119 : decode cX6_number 119 = .ok (.iconst 1, 1) := by decide +kernel
theorem dX6_number_120 : decode cX6_number 120 = .ok (.iadd, 1) := by decide +kernel
theorem dX6_number_121 : decode cX6_number 121 = .ok (.putfield 164, 3) := by decide +kernel
theorem dX6_number_124 : decode cX6_number 124 = .ok (.iload_n 1, 1) := by decide +kernel
theorem dX6_number_125 : decode cX6_number 125 = .ok (.ireturn, 1) := by decide +kernel
set_option maxRecDepth 20000 in
theorem ggX6_readsPoint_X6_number : GoodIn wsX6_readsPoint wsX6_number := goodIn_r _ [9, 4, 10, 11, 12, 13, 8, 14, 15, 16, 17, 18, 19, 24, 25, 26, 27, 28, 29, 30, 31, 32, 33, 34, 35, 36, 37] (by decide +kernel) (by decide +kernel)
set_option maxRecDepth 20000 in
theorem gX6_readsPoint_X6_number : GoodIn wsX6_readsPoint (wsV RX6 174 RX6 yX6_number wsX6_number) := goodIn_app (goodIn_of _ (by decide +kernel)) ggX6_readsPoint_X6_number
set_option maxRecDepth 20000 in
theorem ggX6_readsPoint_X6_wants : GoodIn wsX6_readsPoint wsX6_wants := goodIn_r _ [23, 4, 10, 11, 12, 13, 8, 14, 15, 16, 24, 25, 26, 27, 28, 29, 30, 31, 32, 33, 34, 35, 36, 37] (by decide +kernel) (by decide +kernel)
set_option maxRecDepth 20000 in
theorem gX6_readsPoint_X6_wants : GoodIn wsX6_readsPoint (wsV RX6 177 RX6 yX6_wants wsX6_wants) := goodIn_app (goodIn_of _ (by decide +kernel)) ggX6_readsPoint_X6_wants
theorem dX6_readsPoint_0 : decode cX6_readsPoint 0 = .ok (.aload_n 0, 1) := by decide +kernel
theorem dX6_readsPoint_1 : decode cX6_readsPoint 1 = .ok (.getfield 25, 3) := by decide +kernel
theorem dX6_readsPoint_4 : decode cX6_readsPoint 4 = .ok (.aload_n 0, 1) := by decide +kernel
theorem dX6_readsPoint_5 : decode cX6_readsPoint 5 = .ok (.getfield 113, 3) := by decide +kernel
theorem dX6_readsPoint_8 : decode cX6_readsPoint 8 = .ok (.aload_n 0, 1) := by decide +kernel
theorem dX6_readsPoint_9 : decode cX6_readsPoint 9 = .ok (.invokevirtual 174, 3) := by decide +kernel
theorem dX6_readsPoint_12 : decode cX6_readsPoint 12 = .ok (.iastore, 1) := by decide +kernel
theorem dX6_readsPoint_13 : decode cX6_readsPoint 13 = .ok (.aload_n 0, 1) := by decide +kernel
theorem dX6_readsPoint_14 : decode cX6_readsPoint 14 = .ok (.bipush 44, 2) := by decide +kernel
theorem dX6_readsPoint_16 : decode cX6_readsPoint 16 = .ok (.invokevirtual 177, 3) := by decide +kernel
theorem dX6_readsPoint_19 : decode cX6_readsPoint 19 = .ok (.aload_n 0, 1) := by decide +kernel
theorem dX6_readsPoint_20 : decode cX6_readsPoint 20 = .ok (.getfield 28, 3) := by decide +kernel
theorem dX6_readsPoint_23 : decode cX6_readsPoint 23 = .ok (.aload_n 0, 1) := by decide +kernel
theorem dX6_readsPoint_24 : decode cX6_readsPoint 24 = .ok (.getfield 113, 3) := by decide +kernel
theorem dX6_readsPoint_27 : decode cX6_readsPoint 27 = .ok (.aload_n 0, 1) := by decide +kernel
theorem dX6_readsPoint_28 : decode cX6_readsPoint 28 = .ok (.invokevirtual 174, 3) := by decide +kernel
theorem dX6_readsPoint_31 : decode cX6_readsPoint 31 = .ok (.iastore, 1) := by decide +kernel
theorem dX6_readsPoint_32 : decode cX6_readsPoint 32 = .ok (.aload_n 0, 1) := by decide +kernel
theorem dX6_readsPoint_33 : decode cX6_readsPoint 33 = .ok (.dup, 1) := by decide +kernel
theorem dX6_readsPoint_34 : decode cX6_readsPoint 34 = .ok (.getfield 113, 3) := by decide +kernel
theorem dX6_readsPoint_37 : decode cX6_readsPoint 37 = .ok (.aload_n 0, 1) := by decide +kernel
theorem dX6_readsPoint_38 : decode cX6_readsPoint 38 = .ok (.getfield 167, 3) := by decide +kernel
theorem dX6_readsPoint_41 : decode cX6_readsPoint 41 = .ok (.ifCond .eq 7, 3) := by decide +kernel
theorem dX6_readsPoint_44 : decode cX6_readsPoint 44 = .ok (.iconst 1, 1) := by decide +kernel
theorem dX6_readsPoint_45 : decode cX6_readsPoint 45 = .ok (.goto 4, 3) := by decide +kernel
theorem dX6_readsPoint_48 : decode cX6_readsPoint 48 = .ok (.iconst 0, 1) := by decide +kernel
theorem dX6_readsPoint_49 : decode cX6_readsPoint 49 = .ok (.iadd, 1) := by decide +kernel
theorem dX6_readsPoint_50 : decode cX6_readsPoint 50 = .ok (.putfield 113, 3) := by decide +kernel
theorem dX6_readsPoint_53 : decode cX6_readsPoint 53 = .ok (.return_, 1) := by decide +kernel
set_option maxRecDepth 20000 in
theorem ggX6_reads_X6_readsPoint : GoodIn wsX6_reads wsX6_readsPoint := goodIn_r _ [9, 10, 3, 11, 2, 12, 13, 14, 8, 15, 1, 16, 17, 18, 19, 4, 20, 21, 22, 23, 24, 25, 26, 27, 28, 29, 30, 31, 32, 33, 34, 35, 36, 37, 38, 39, 40, 41] (by decide +kernel) (by decide +kernel)
set_option maxRecDepth 20000 in
theorem gX6_reads_X6_readsPoint : GoodIn wsX6_reads (wsV RX6 180 RX6 yX6_readsPoint wsX6_readsPoint) := goodIn_app (goodIn_of _ (by decide +kernel)) ggX6_reads_X6_readsPoint
set_option maxRecDepth 20000 in
theorem ggX6_reads_X6_wants : GoodIn wsX6_reads wsX6_wants := goodIn_r _ [27, 2, 1, 16, 17, 18, 8, 19, 4, 20, 28, 29, 30, 31, 32, 33, 34, 35, 36, 37, 38, 39, 40, 41] (by decide +kernel) (by decide +kernel)
set_option maxRecDepth 20000 in
theorem gX6_reads_X6_wants : GoodIn wsX6_reads (wsV RX6 177 RX6 yX6_wants wsX6_wants) := goodIn_app (goodIn_of _ (by decide +kernel)) ggX6_reads_X6_wants
theorem dX6_reads_0 : decode cX6_reads 0 = .ok (.aload_n 0, 1) := by decide +kernel
theorem dX6_reads_1 : decode cX6_reads 1 = .ok (.iconst 0, 1) := by decide +kernel
theorem dX6_reads_2 : decode cX6_reads 2 = .ok (.putfield 164, 3) := by decide +kernel
theorem dX6_reads_5 : decode cX6_reads 5 = .ok (.aload_n 0, 1) := by decide +kernel
theorem dX6_reads_6 : decode cX6_reads 6 = .ok (.iconst 1, 1) := by decide +kernel
theorem dX6_reads_7 : decode cX6_reads 7 = .ok (.putfield 167, 3) := by decide +kernel
theorem dX6_reads_10 : decode cX6_reads 10 = .ok (.aload_n 0, 1) := by decide +kernel
theorem dX6_reads_11 : decode cX6_reads 11 = .ok (.iconst 0, 1) := by decide +kernel
theorem dX6_reads_12 : decode cX6_reads 12 = .ok (.putfield 113, 3) := by decide +kernel
theorem dX6_reads_15 : decode cX6_reads 15 = .ok (.aload_n 0, 1) := by decide +kernel
theorem dX6_reads_16 : decode cX6_reads 16 = .ok (.invokevirtual 180, 3) := by decide +kernel
theorem dX6_reads_19 : decode cX6_reads 19 = .ok (.aload_n 0, 1) := by decide +kernel
theorem dX6_reads_20 : decode cX6_reads 20 = .ok (.getfield 167, 3) := by decide +kernel
theorem dX6_reads_23 : decode cX6_reads 23 = .ok (.ifCond .eq 34, 3) := by decide +kernel
theorem dX6_reads_26 : decode cX6_reads 26 = .ok (.aload_n 0, 1) := by decide +kernel
theorem dX6_reads_27 : decode cX6_reads 27 = .ok (.getfield 164, 3) := by decide +kernel
theorem dX6_reads_30 : decode cX6_reads 30 = .ok (.aload_n 0, 1) := by decide +kernel
theorem dX6_reads_31 : decode cX6_reads 31 = .ok (.getfield 161, 3) := by decide +kernel
theorem dX6_reads_34 : decode cX6_reads 34 = .ok (.if_icmp .ge 23, 3) := by decide +kernel
theorem dX6_reads_37 : decode cX6_reads 37 = .ok (.aload_n 0, 1) := by decide +kernel
theorem dX6_reads_38 : decode cX6_reads 38 = .ok (.bipush 59, 2) := by decide +kernel
theorem dX6_reads_40 : decode cX6_reads 40 = .ok (.invokevirtual 177, 3) := by decide +kernel
theorem dX6_reads_43 : decode cX6_reads 43 = .ok (.aload_n 0, 1) := by decide +kernel
theorem dX6_reads_44 : decode cX6_reads 44 = .ok (.getfield 167, 3) := by decide +kernel
theorem dX6_reads_47 : decode cX6_reads 47 = .ok (.ifCond .eq (-28), 3) := by decide +kernel
theorem dX6_reads_50 : decode cX6_reads 50 = .ok (.aload_n 0, 1) := by decide +kernel
theorem dX6_reads_51 : decode cX6_reads 51 = .ok (.invokevirtual 180, 3) := by decide +kernel
theorem dX6_reads_54 : decode cX6_reads 54 = .ok (.goto (-35), 3) := by decide +kernel
theorem dX6_reads_57 : decode cX6_reads 57 = .ok (.aload_n 0, 1) := by decide +kernel
theorem dX6_reads_58 : decode cX6_reads 58 = .ok (.getfield 167, 3) := by decide +kernel
theorem dX6_reads_61 : decode cX6_reads 61 = .ok (.ifCond .eq 8, 3) := by decide +kernel
theorem dX6_reads_64 : decode cX6_reads 64 = .ok (.bipush (-5), 2) := by decide +kernel
theorem dX6_reads_66 : decode cX6_reads 66 = .ok (.goto 7, 3) := by decide +kernel
theorem dX6_reads_69 : decode cX6_reads 69 = .ok (.aload_n 0, 1) := by decide +kernel
theorem dX6_reads_70 : decode cX6_reads 70 = .ok (.getfield 164, 3) := by decide +kernel
theorem dX6_reads_73 : decode cX6_reads 73 = .ok (.ireturn, 1) := by decide +kernel
theorem dX6_undo_0 : decode cX6_undo 0 = .ok (.aload_n 0, 1) := by decide +kernel
theorem dX6_undo_1 : decode cX6_undo 1 = .ok (.iconst 0, 1) := by decide +kernel
theorem dX6_undo_2 : decode cX6_undo 2 = .ok (.putfield 31, 3) := by decide +kernel
theorem dX6_undo_5 : decode cX6_undo 5 = .ok (.aload_n 0, 1) := by decide +kernel
theorem dX6_undo_6 : decode cX6_undo 6 = .ok (.getfield 43, 3) := by decide +kernel
theorem dX6_undo_9 : decode cX6_undo 9 = .ok (.ifCond .ne 6, 3) := by decide +kernel
theorem dX6_undo_12 : decode cX6_undo 12 = .ok (.bipush (-5), 2) := by decide +kernel
theorem dX6_undo_14 : decode cX6_undo 14 = .ok (.ireturn, 1) := by decide +kernel
theorem dX6_undo_15 : decode cX6_undo 15 = .ok (.aload_n 0, 1) := by decide +kernel
theorem dX6_undo_16 : decode cX6_undo 16 = .ok (.dup, 1) := by decide +kernel
theorem dX6_undo_17 : decode cX6_undo 17 = .ok (.getfield 43, 3) := by decide +kernel
theorem dX6_undo_20 : decode cX6_undo 20 = .ok (.iconst 1, 1) := by decide +kernel
theorem dX6_undo_21 : decode cX6_undo 21 = .ok (.isub, 1) := by decide +kernel
theorem dX6_undo_22 : decode cX6_undo 22 = .ok (.putfield 43, 3) := by decide +kernel
theorem dX6_undo_25 : decode cX6_undo 25 = .ok (.iconst 0, 1) := by decide +kernel
theorem dX6_undo_26 : decode cX6_undo 26 = .ok (.istore_n 1, 1) := by decide +kernel
theorem dX6_undo_27 : decode cX6_undo 27 = .ok (.iload_n 1, 1) := by decide +kernel
theorem dX6_undo_28 : decode cX6_undo 28 = .ok (.sipush 886, 3) := by decide +kernel
theorem dX6_undo_31 : decode cX6_undo 31 = .ok (.if_icmp .ge 30, 3) := by decide +kernel
theorem dX6_undo_34 : decode cX6_undo 34 = .ok (.aload_n 0, 1) := by decide +kernel
theorem dX6_undo_35 : decode cX6_undo 35 = .ok (.getfield 7, 3) := by decide +kernel
theorem dX6_undo_38 : decode cX6_undo 38 = .ok (.iload_n 1, 1) := by decide +kernel
theorem dX6_undo_39 : decode cX6_undo 39 = .ok (.aload_n 0, 1) := by decide +kernel
theorem dX6_undo_40 : decode cX6_undo 40 = .ok (.getfield 16, 3) := by decide +kernel
theorem dX6_undo_43 : decode cX6_undo 43 = .ok (.sipush 886, 3) := by decide +kernel
theorem dX6_undo_46 : decode cX6_undo 46 = .ok (.aload_n 0, 1) := by decide +kernel
theorem dX6_undo_47 : decode cX6_undo 47 = .ok (.getfield 43, 3) := by decide +kernel
theorem dX6_undo_50 : decode cX6_undo 50 = .ok (.imul, 1) := by decide +kernel
theorem dX6_undo_51 : decode cX6_undo 51 = .ok (.iload_n 1, 1) := by decide +kernel
theorem dX6_undo_52 : decode cX6_undo 52 = .ok (.iadd, 1) := by decide +kernel
theorem dX6_undo_53 : decode cX6_undo 53 = .ok (.iaload, 1) := by decide +kernel
theorem dX6_undo_54 : decode cX6_undo 54 = .ok (.iastore, 1) := by decide +kernel
theorem dX6_undo_55 : decode cX6_undo 55 = .ok (.iinc 1 1, 3) := by decide +kernel
theorem dX6_undo_58 : decode cX6_undo 58 = .ok (.goto (-31), 3) := by decide +kernel
theorem dX6_undo_61 : decode cX6_undo 61 = .ok (.aload_n 0, 1) := by decide +kernel
theorem dX6_undo_62 : decode cX6_undo 62 = .ok (.getfield 43, 3) := by decide +kernel
theorem dX6_undo_65 : decode cX6_undo 65 = .ok (.ireturn, 1) := by decide +kernel
set_option maxRecDepth 20000 in
theorem ggX6_keep_X6_onField : GoodIn wsX6_keep wsX6_onField := goodIn_r _ [9, 10, 11, 12, 8, 13, 3, 14, 15, 16, 17, 18, 19, 20, 21, 22, 23, 24, 25, 26, 27] (by decide +kernel) (by decide +kernel)
set_option maxRecDepth 20000 in
theorem gX6_keep_X6_onField : GoodIn wsX6_keep (wsV RX6 141 RX6 yX6_onField wsX6_onField) := goodIn_app (goodIn_of _ (by decide +kernel)) ggX6_keep_X6_onField
theorem dX6_keep_0 : decode cX6_keep 0 = .ok (.aload_n 0, 1) := by decide +kernel
theorem dX6_keep_1 : decode cX6_keep 1 = .ok (.iconst 0, 1) := by decide +kernel
theorem dX6_keep_2 : decode cX6_keep 2 = .ok (.putfield 31, 3) := by decide +kernel
theorem dX6_keep_5 : decode cX6_keep 5 = .ok (.iconst 0, 1) := by decide +kernel
theorem dX6_keep_6 : decode cX6_keep 6 = .ok (.istore_n 1, 1) := by decide +kernel
theorem dX6_keep_7 : decode cX6_keep 7 = .ok (.iload_n 1, 1) := by decide +kernel
theorem dX6_keep_8 : decode cX6_keep 8 = .ok (.sipush 886, 3) := by decide +kernel
theorem dX6_keep_11 : decode cX6_keep 11 = .ok (.if_icmp .ge 21, 3) := by decide +kernel
theorem dX6_keep_14 : decode cX6_keep 14 = .ok (.aload_n 0, 1) := by decide +kernel
theorem dX6_keep_15 : decode cX6_keep 15 = .ok (.getfield 19, 3) := by decide +kernel
theorem dX6_keep_18 : decode cX6_keep 18 = .ok (.iload_n 1, 1) := by decide +kernel
theorem dX6_keep_19 : decode cX6_keep 19 = .ok (.aload_n 0, 1) := by decide +kernel
theorem dX6_keep_20 : decode cX6_keep 20 = .ok (.getfield 7, 3) := by decide +kernel
theorem dX6_keep_23 : decode cX6_keep 23 = .ok (.iload_n 1, 1) := by decide +kernel
theorem dX6_keep_24 : decode cX6_keep 24 = .ok (.iaload, 1) := by decide +kernel
theorem dX6_keep_25 : decode cX6_keep 25 = .ok (.iastore, 1) := by decide +kernel
theorem dX6_keep_26 : decode cX6_keep 26 = .ok (.iinc 1 1, 3) := by decide +kernel
theorem dX6_keep_29 : decode cX6_keep 29 = .ok (.goto (-22), 3) := by decide +kernel
theorem dX6_keep_32 : decode cX6_keep 32 = .ok (.aload_n 0, 1) := by decide +kernel
theorem dX6_keep_33 : decode cX6_keep 33 = .ok (.iconst 1, 1) := by decide +kernel
theorem dX6_keep_34 : decode cX6_keep 34 = .ok (.putfield 183, 3) := by decide +kernel
theorem dX6_keep_37 : decode cX6_keep 37 = .ok (.aload_n 0, 1) := by decide +kernel
theorem dX6_keep_38 : decode cX6_keep 38 = .ok (.invokevirtual 141, 3) := by decide +kernel
theorem dX6_keep_41 : decode cX6_keep 41 = .ok (.ireturn, 1) := by decide +kernel
set_option maxRecDepth 20000 in
theorem ggX6_restore_X6_records : GoodIn wsX6_restore wsX6_records := goodIn_r _ [9, 10, 11, 3, 20, 21, 22, 23, 24, 25, 26, 27, 28, 29, 30, 31, 32, 33] (by decide +kernel) (by decide +kernel)
set_option maxRecDepth 20000 in
theorem gX6_restore_X6_records : GoodIn wsX6_restore (wsV RX6 100 RX6 yX6_records wsX6_records) := goodIn_app (goodIn_of _ (by decide +kernel)) ggX6_restore_X6_records
set_option maxRecDepth 20000 in
theorem ggX6_restore_X6_onField : GoodIn wsX6_restore wsX6_onField := goodIn_r _ [15, 16, 17, 18, 8, 19, 3, 20, 21, 22, 23, 24, 25, 26, 27, 28, 29, 30, 31, 32, 33] (by decide +kernel) (by decide +kernel)
set_option maxRecDepth 20000 in
theorem gX6_restore_X6_onField : GoodIn wsX6_restore (wsV RX6 141 RX6 yX6_onField wsX6_onField) := goodIn_app (goodIn_of _ (by decide +kernel)) ggX6_restore_X6_onField
theorem dX6_restore_0 : decode cX6_restore 0 = .ok (.aload_n 0, 1) := by decide +kernel
theorem dX6_restore_1 : decode cX6_restore 1 = .ok (.iconst 0, 1) := by decide +kernel
theorem dX6_restore_2 : decode cX6_restore 2 = .ok (.putfield 31, 3) := by decide +kernel
theorem dX6_restore_5 : decode cX6_restore 5 = .ok (.aload_n 0, 1) := by decide +kernel
theorem dX6_restore_6 : decode cX6_restore 6 = .ok (.getfield 183, 3) := by decide +kernel
theorem dX6_restore_9 : decode cX6_restore 9 = .ok (.ifCond .ne 6, 3) := by decide +kernel
theorem dX6_restore_12 : decode cX6_restore 12 = .ok (.bipush (-5), 2) := by decide +kernel
theorem dX6_restore_14 : decode cX6_restore 14 = .ok (.ireturn, 1) := by decide +kernel
theorem dX6_restore_15 : decode cX6_restore 15 = .ok (.aload_n 0, 1) := by decide +kernel
theorem dX6_restore_16 : decode cX6_restore 16 = .ok (.invokevirtual 100, 3) := by decide +kernel
theorem dX6_restore_19 : decode cX6_restore 19 = .ok (.iconst 0, 1) := by decide +kernel
theorem dX6_restore_20 : decode cX6_restore 20 = .ok (.istore_n 1, 1) := by decide +kernel
theorem dX6_restore_21 : decode cX6_restore 21 = .ok (.iload_n 1, 1) := by decide +kernel
theorem dX6_restore_22 : decode cX6_restore 22 = .ok (.sipush 886, 3) := by decide +kernel
theorem dX6_restore_25 : decode cX6_restore 25 = .ok (.if_icmp .ge 21, 3) := by decide +kernel
theorem dX6_restore_28 : decode cX6_restore 28 = .ok (.aload_n 0, 1) := by decide +kernel
theorem dX6_restore_29 : decode cX6_restore 29 = .ok (.getfield 7, 3) := by decide +kernel
theorem dX6_restore_32 : decode cX6_restore 32 = .ok (.iload_n 1, 1) := by decide +kernel
theorem dX6_restore_33 : decode cX6_restore 33 = .ok (.aload_n 0, 1) := by decide +kernel
theorem dX6_restore_34 : decode cX6_restore 34 = .ok (.getfield 19, 3) := by decide +kernel
theorem dX6_restore_37 : decode cX6_restore 37 = .ok (.iload_n 1, 1) := by decide +kernel
theorem dX6_restore_38 : decode cX6_restore 38 = .ok (.iaload, 1) := by decide +kernel
theorem dX6_restore_39 : decode cX6_restore 39 = .ok (.iastore, 1) := by decide +kernel
theorem dX6_restore_40 : decode cX6_restore 40 = .ok (.iinc 1 1, 3) := by decide +kernel
theorem dX6_restore_43 : decode cX6_restore 43 = .ok (.goto (-22), 3) := by decide +kernel
theorem dX6_restore_46 : decode cX6_restore 46 = .ok (.aload_n 0, 1) := by decide +kernel
theorem dX6_restore_47 : decode cX6_restore 47 = .ok (.invokevirtual 141, 3) := by decide +kernel
theorem dX6_restore_50 : decode cX6_restore 50 = .ok (.ireturn, 1) := by decide +kernel
set_option maxRecDepth 20000 in
theorem ggX6_touching_X6_touch : GoodIn wsX6_touching wsX6_touch := goodIn_r _ [6, 7, 8, 9, 5, 10, 11, 12, 13, 14, 1, 15, 16, 17, 18, 19, 20, 21, 22, 23, 24, 25, 26, 27, 28, 29, 30, 31, 32, 33, 34, 35, 36, 37, 38, 39, 40, 41] (by decide +kernel) (by decide +kernel)
set_option maxRecDepth 20000 in
theorem gX6_touching_X6_touch : GoodIn wsX6_touching (wsV RX6 80 RX6 yX6_touch wsX6_touch) := goodIn_app (goodIn_of _ (by decide +kernel)) ggX6_touching_X6_touch
theorem dX6_touching_0 : decode cX6_touching 0 = .ok (.iconst 0, 1) := by decide +kernel
theorem dX6_touching_1 : decode cX6_touching 1 = .ok (.istore_n 2, 1) := by decide +kernel
theorem dX6_touching_2 : decode cX6_touching 2 = .ok (.iconst 0, 1) := by decide +kernel
theorem dX6_touching_3 : decode cX6_touching 3 = .ok (.istore_n 3, 1) := by decide +kernel
theorem dX6_touching_4 : decode cX6_touching 4 = .ok (.iload_n 3, 1) := by decide +kernel
theorem dX6_touching_5 : decode cX6_touching 5 = .ok (.aload_n 0, 1) := by decide +kernel
theorem dX6_touching_6 : decode cX6_touching 6 = .ok (.getfield 7, 3) := by decide +kernel
theorem dX6_touching_9 : decode cX6_touching 9 = .ok (.iconst 1, 1) := by decide +kernel
theorem dX6_touching_10 : decode cX6_touching 10 = .ok (.iaload, 1) := by decide +kernel
theorem dX6_touching_11 : decode cX6_touching 11 = .ok (.if_icmp .ge 31, 3) := by decide +kernel
theorem dX6_touching_14 : decode cX6_touching 14 = .ok (.iload_n 2, 1) := by decide +kernel
theorem dX6_touching_15 : decode cX6_touching 15 = .ok (.iload_n 3, 1) := by decide +kernel
theorem dX6_touching_16 : decode cX6_touching 16 = .ok (.iload_n 1, 1) := by decide +kernel
theorem dX6_touching_17 : decode cX6_touching 17 = .ok (.if_icmp .eq 16, 3) := by decide +kernel
theorem dX6_touching_20 : decode cX6_touching 20 = .ok (.aload_n 0, 1) := by decide +kernel
theorem dX6_touching_21 : decode cX6_touching 21 = .ok (.iload_n 1, 1) := by decide +kernel
theorem dX6_touching_22 : decode cX6_touching 22 = .ok (.iload_n 3, 1) := by decide +kernel
theorem dX6_touching_23 : decode cX6_touching 23 = .ok (.invokevirtual 80, 3) := by decide +kernel
theorem dX6_touching_26 : decode cX6_touching 26 = .ok (.ifCond .eq 7, 3) := by decide +kernel
theorem dX6_touching_29 : decode cX6_touching 29 = .ok (.iconst 1, 1) := by decide +kernel
theorem dX6_touching_30 : decode cX6_touching 30 = .ok (.goto 4, 3) := by decide +kernel
theorem dX6_touching_33 : decode cX6_touching 33 = .ok (.iconst 0, 1) := by decide +kernel
theorem dX6_touching_34 : decode cX6_touching 34 = .ok (.iadd, 1) := by decide +kernel
theorem dX6_touching_35 : decode cX6_touching 35 = .ok (.istore_n 2, 1) := by decide +kernel
theorem dX6_touching_36 : decode cX6_touching 36 = .ok (.iinc 3 1, 3) := by decide +kernel
theorem dX6_touching_39 : decode cX6_touching 39 = .ok (.goto (-35), 3) := by decide +kernel
theorem dX6_touching_42 : decode cX6_touching 42 = .ok (.iload_n 2, 1) := by decide +kernel
theorem dX6_touching_43 : decode cX6_touching 43 = .ok (.ireturn, 1) := by decide +kernel
set_option maxRecDepth 20000 in
theorem ggX6_plot_X6_isPoint : GoodIn wsX6_plot wsX6_isPoint := goodIn_r _ [5, 6, 7, 4, 8] (by decide +kernel) (by decide +kernel)
set_option maxRecDepth 20000 in
theorem gX6_plot_X6_isPoint : GoodIn wsX6_plot (va_wsS RX6 94 yX6_isPoint wsX6_isPoint) := goodIn_app (goodIn_of _ (by decide +kernel)) ggX6_plot_X6_isPoint
set_option maxRecDepth 20000 in
theorem ggX6_plot_X6_plotAt : GoodIn wsX6_plot wsX6_plotAt := goodIn_r _ [12, 13, 14, 15, 4, 16, 17, 18, 19, 20, 21, 22, 23, 24, 25, 26, 27, 28, 6, 7, 8, 29, 30, 31, 32, 33, 34, 35, 47, 48, 49, 50, 51, 52, 53, 54, 55, 56, 57, 58, 59, 60] (by decide +kernel) (by decide +kernel)
set_option maxRecDepth 20000 in
theorem gX6_plot_X6_plotAt : GoodIn wsX6_plot (wsV RX6 83 RX6 yX6_plotAt wsX6_plotAt) := goodIn_app (goodIn_of _ (by decide +kernel)) ggX6_plot_X6_plotAt
set_option maxRecDepth 20000 in
theorem ggX6_plot_X6_ofPlot : GoodIn wsX6_plot wsX6_ofPlot := goodIn_r _ [20, 21, 47, 48, 49, 50, 51, 52, 53, 54, 55, 56, 57, 58, 59, 60] (by decide +kernel) (by decide +kernel)
set_option maxRecDepth 20000 in
theorem gX6_plot_X6_ofPlot : GoodIn wsX6_plot (wsV RX6 46 RX6 yX6_ofPlot wsX6_ofPlot) := goodIn_app (goodIn_of _ (by decide +kernel)) ggX6_plot_X6_ofPlot
set_option maxRecDepth 20000 in
theorem ggX6_plot_X6_lastX : GoodIn wsX6_plot wsX6_lastX := goodIn_r _ [25, 17, 18, 19, 4, 20, 21, 26, 27, 28, 47, 48, 49, 50, 51, 52, 53, 54, 55, 56, 57, 58, 59, 60] (by decide +kernel) (by decide +kernel)
set_option maxRecDepth 20000 in
theorem gX6_plot_X6_lastX : GoodIn wsX6_plot (wsV RX6 56 RX6 yX6_lastX wsX6_lastX) := goodIn_app (goodIn_of _ (by decide +kernel)) ggX6_plot_X6_lastX
set_option maxRecDepth 20000 in
theorem ggX6_plot_X6_lastY : GoodIn wsX6_plot wsX6_lastY := goodIn_r _ [32, 17, 18, 19, 4, 20, 21, 33, 34, 35, 47, 48, 49, 50, 51, 52, 53, 54, 55, 56, 57, 58, 59, 60] (by decide +kernel) (by decide +kernel)
set_option maxRecDepth 20000 in
theorem gX6_plot_X6_lastY : GoodIn wsX6_plot (wsV RX6 59 RX6 yX6_lastY wsX6_lastY) := goodIn_app (goodIn_of _ (by decide +kernel)) ggX6_plot_X6_lastY
set_option maxRecDepth 20000 in
theorem ggX6_plot_X6_touching : GoodIn wsX6_plot wsX6_touching := goodIn_r _ [39, 21, 40, 41, 42, 4, 43, 22, 23, 24, 25, 17, 18, 19, 20, 26, 27, 28, 29, 30, 31, 32, 33, 34, 35, 44, 45, 46, 47, 48, 49, 50, 51, 52, 53, 54, 55, 56, 57, 58, 59, 60] (by decide +kernel) (by decide +kernel)
set_option maxRecDepth 20000 in
theorem gX6_plot_X6_touching : GoodIn wsX6_plot (wsV RX6 186 RX6 yX6_touching wsX6_touching) := goodIn_app (goodIn_of _ (by decide +kernel)) ggX6_plot_X6_touching
theorem dX6_plot_0 : decode cX6_plot 0 = .ok (.aload_n 0, 1) := by decide +kernel
theorem dX6_plot_1 : decode cX6_plot 1 = .ok (.iconst 0, 1) := by decide +kernel
theorem dX6_plot_2 : decode cX6_plot 2 = .ok (.putfield 31, 3) := by decide +kernel
theorem dX6_plot_5 : decode cX6_plot 5 = .ok (.iload_n 1, 1) := by decide +kernel
theorem dX6_plot_6 : decode cX6_plot 6 = .ok (.iload_n 2, 1) := by decide +kernel
theorem dX6_plot_7 : decode cX6_plot 7 = .ok (.invokestatic 94, 3) := by decide +kernel
theorem dX6_plot_10 : decode cX6_plot 10 = .ok (.ifCond .ne 5, 3) := by decide +kernel
theorem dX6_plot_13 : decode cX6_plot 13 = .ok (.iconst (-1), 1) := by decide +kernel
theorem dX6_plot_14 : decode cX6_plot 14 = .ok (.ireturn, 1) := by decide +kernel
theorem dX6_plot_15 : decode cX6_plot 15 = .ok (.aload_n 0, 1) := by decide +kernel
theorem dX6_plot_16 : decode cX6_plot 16 = .ok (.iload_n 1, 1) := by decide +kernel
theorem dX6_plot_17 : decode cX6_plot 17 = .ok (.iload_n 2, 1) := by decide +kernel
theorem dX6_plot_18 : decode cX6_plot 18 = .ok (.invokevirtual 83, 3) := by decide +kernel
theorem dX6_plot_21 : decode cX6_plot 21 = .ok (.istore 4, 2) := by decide +kernel
theorem dX6_plot_23 : decode cX6_plot 23 = .ok (.iload_n 3, 1) := by decide +kernel
theorem dX6_plot_24 : decode cX6_plot 24 = .ok (.tableswitch 114 0 6 #[44, 69, 77, 85, 93, 100, 107], 44) := by decide +kernel
theorem dX6_plot_68 : decode cX6_plot 68 = .ok (.aload_n 0, 1) := by decide +kernel
theorem dX6_plot_69 : decode cX6_plot 69 = .ok (.iload 4, 2) := by decide +kernel
theorem dX6_plot_71 : decode cX6_plot 71 = .ok (.iconst 3, 1) := by decide +kernel
theorem dX6_plot_72 : decode cX6_plot 72 = .ok (.invokevirtual 46, 3) := by decide +kernel
theorem dX6_plot_75 : decode cX6_plot 75 = .ok (.ifCond .ne 8, 3) := by decide +kernel
theorem dX6_plot_78 : decode cX6_plot 78 = .ok (.bipush (-5), 2) := by decide +kernel
theorem dX6_plot_80 : decode cX6_plot 80 = .ok (.goto 12, 3) := by decide +kernel
theorem dX6_plot_83 : decode cX6_plot 83 = .ok (.aload_n 0, 1) := by decide +kernel
theorem dX6_plot_84 : decode cX6_plot 84 = .ok (.iload 4, 2) := by decide +kernel
theorem dX6_plot_86 : decode cX6_plot 86 = .ok (.iconst 3, 1) := by decide +kernel
theorem dX6_plot_87 : decode cX6_plot 87 = .ok (.invokevirtual 46, 3) := by decide +kernel
theorem dX6_plot_90 : decode cX6_plot 90 = .ok (.iconst 1, 1) := by decide +kernel
theorem dX6_plot_91 : decode cX6_plot 91 = .ok (.isub, 1) := by decide +kernel
theorem dX6_plot_92 : decode cX6_plot 92 = .ok (.ireturn, 1) := by decide +kernel
theorem dX6_plot_93 : decode cX6_plot 93 = .ok (.aload_n 0, 1) := by decide +kernel
theorem dX6_plot_94 : decode cX6_plot 94 = .ok (.iload 4, 2) := by decide +kernel
theorem dX6_plot_96 : decode cX6_plot 96 = .ok (.iconst 0, 1) := by decide +kernel
theorem dX6_plot_97 : decode cX6_plot 97 = .ok (.invokevirtual 46, 3) := by decide +kernel
theorem dX6_plot_100 : decode cX6_plot 100 = .ok (.ireturn, 1) := by decide +kernel
theorem dX6_plot_101 : decode cX6_plot 101 = .ok (.aload_n 0, 1) := by decide +kernel
theorem dX6_plot_102 : decode cX6_plot 102 = .ok (.iload 4, 2) := by decide +kernel
theorem dX6_plot_104 : decode cX6_plot 104 = .ok (.iconst 1, 1) := by decide +kernel
theorem dX6_plot_105 : decode cX6_plot 105 = .ok (.invokevirtual 46, 3) := by decide +kernel
theorem dX6_plot_108 : decode cX6_plot 108 = .ok (.ireturn, 1) := by decide +kernel
theorem dX6_plot_109 : decode cX6_plot 109 = .ok (.aload_n 0, 1) := by decide +kernel
theorem dX6_plot_110 : decode cX6_plot 110 = .ok (.iload 4, 2) := by decide +kernel
theorem dX6_plot_112 : decode cX6_plot 112 = .ok (.iconst 2, 1) := by decide +kernel
theorem dX6_plot_113 : decode cX6_plot 113 = .ok (.invokevirtual 46, 3) := by decide +kernel
theorem dX6_plot_116 : decode cX6_plot 116 = .ok (.ireturn, 1) := by decide +kernel
theorem dX6_plot_117 : decode cX6_plot 117 = .ok (.aload_n 0, 1) := by decide +kernel
theorem dX6_plot_118 : decode cX6_plot 118 = .ok (.iload 4, 2) := by decide +kernel
theorem dX6_plot_120 : decode cX6_plot 120 = .ok (.invokevirtual 56, 3) := by decide +kernel
theorem dX6_plot_123 : decode cX6_plot 123 = .ok (.ireturn, 1) := by decide +kernel
theorem dX6_plot_124 : decode cX6_plot 124 = .ok (.aload_n 0, 1) := by decide +kernel
theorem dX6_plot_125 : decode cX6_plot 125 = .ok (.iload 4, 2) := by decide +kernel
theorem dX6_plot_127 : decode cX6_plot 127 = .ok (.invokevirtual 59, 3) := by decide +kernel
theorem dX6_plot_130 : decode cX6_plot 130 = .ok (.ireturn, 1) := by decide +kernel
theorem dX6_plot_131 : decode cX6_plot 131 = .ok (.aload_n 0, 1) := by decide +kernel
theorem dX6_plot_132 : decode cX6_plot 132 = .ok (.iload 4, 2) := by decide +kernel
theorem dX6_plot_134 : decode cX6_plot 134 = .ok (.invokevirtual 186, 3) := by decide +kernel
theorem dX6_plot_137 : decode cX6_plot 137 = .ok (.ireturn, 1) := by decide +kernel
theorem dX6_plot_138 : decode cX6_plot 138 = .ok (.bipush (-2), 2) := by decide +kernel
theorem dX6_plot_140 : decode cX6_plot 140 = .ok (.ireturn, 1) := by decide +kernel
set_option maxRecDepth 20000 in
theorem ggX6_plotsOf_X6_ofPlot : GoodIn wsX6_plotsOf wsX6_ofPlot := goodIn_r _ [6, 1, 7, 8, 9, 10, 11, 12, 13, 14, 15, 16, 17, 18, 19, 20] (by decide +kernel) (by decide +kernel)
set_option maxRecDepth 20000 in
theorem gX6_plotsOf_X6_ofPlot : GoodIn wsX6_plotsOf (wsV RX6 46 RX6 yX6_ofPlot wsX6_ofPlot) := goodIn_app (goodIn_of _ (by decide +kernel)) ggX6_plotsOf_X6_ofPlot
theorem dX6_plotsOf_0 : decode cX6_plotsOf 0 = .ok (.iconst 0, 1) := by decide +kernel
theorem dX6_plotsOf_1 : decode cX6_plotsOf 1 = .ok (.istore_n 2, 1) := by decide +kernel
theorem dX6_plotsOf_2 : decode cX6_plotsOf 2 = .ok (.iconst 0, 1) := by decide +kernel
theorem dX6_plotsOf_3 : decode cX6_plotsOf 3 = .ok (.istore_n 3, 1) := by decide +kernel
theorem dX6_plotsOf_4 : decode cX6_plotsOf 4 = .ok (.iload_n 3, 1) := by decide +kernel
theorem dX6_plotsOf_5 : decode cX6_plotsOf 5 = .ok (.aload_n 0, 1) := by decide +kernel
theorem dX6_plotsOf_6 : decode cX6_plotsOf 6 = .ok (.getfield 7, 3) := by decide +kernel
theorem dX6_plotsOf_9 : decode cX6_plotsOf 9 = .ok (.iconst 1, 1) := by decide +kernel
theorem dX6_plotsOf_10 : decode cX6_plotsOf 10 = .ok (.iaload, 1) := by decide +kernel
theorem dX6_plotsOf_11 : decode cX6_plotsOf 11 = .ok (.if_icmp .ge 29, 3) := by decide +kernel
theorem dX6_plotsOf_14 : decode cX6_plotsOf 14 = .ok (.iload_n 2, 1) := by decide +kernel
theorem dX6_plotsOf_15 : decode cX6_plotsOf 15 = .ok (.aload_n 0, 1) := by decide +kernel
theorem dX6_plotsOf_16 : decode cX6_plotsOf 16 = .ok (.iload_n 3, 1) := by decide +kernel
theorem dX6_plotsOf_17 : decode cX6_plotsOf 17 = .ok (.iconst 3, 1) := by decide +kernel
theorem dX6_plotsOf_18 : decode cX6_plotsOf 18 = .ok (.invokevirtual 46, 3) := by decide +kernel
theorem dX6_plotsOf_21 : decode cX6_plotsOf 21 = .ok (.iload_n 1, 1) := by decide +kernel
theorem dX6_plotsOf_22 : decode cX6_plotsOf 22 = .ok (.iconst 1, 1) := by decide +kernel
theorem dX6_plotsOf_23 : decode cX6_plotsOf 23 = .ok (.iadd, 1) := by decide +kernel
theorem dX6_plotsOf_24 : decode cX6_plotsOf 24 = .ok (.if_icmp .ne 7, 3) := by decide +kernel
theorem dX6_plotsOf_27 : decode cX6_plotsOf 27 = .ok (.iconst 1, 1) := by decide +kernel
theorem dX6_plotsOf_28 : decode cX6_plotsOf 28 = .ok (.goto 4, 3) := by decide +kernel
theorem dX6_plotsOf_31 : decode cX6_plotsOf 31 = .ok (.iconst 0, 1) := by decide +kernel
theorem dX6_plotsOf_32 : decode cX6_plotsOf 32 = .ok (.iadd, 1) := by decide +kernel
theorem dX6_plotsOf_33 : decode cX6_plotsOf 33 = .ok (.istore_n 2, 1) := by decide +kernel
theorem dX6_plotsOf_34 : decode cX6_plotsOf 34 = .ok (.iinc 3 1, 3) := by decide +kernel
theorem dX6_plotsOf_37 : decode cX6_plotsOf 37 = .ok (.goto (-33), 3) := by decide +kernel
theorem dX6_plotsOf_40 : decode cX6_plotsOf 40 = .ok (.iload_n 2, 1) := by decide +kernel
theorem dX6_plotsOf_41 : decode cX6_plotsOf 41 = .ok (.ireturn, 1) := by decide +kernel
set_option maxRecDepth 20000 in
theorem ggX6_songsOf_X6_singer : GoodIn wsX6_songsOf wsX6_singer := goodIn_r _ [6, 7, 8, 9, 5, 10, 1, 11, 12, 13, 14, 15, 16, 17, 18, 19, 20, 21, 22, 23, 24, 25, 26, 27, 28, 29, 30, 31, 32, 33, 34, 35, 36, 37, 38, 39, 40, 41, 42, 43, 44, 45, 46, 47, 48, 49, 50, 51, 52, 53] (by decide +kernel) (by decide +kernel)
set_option maxRecDepth 20000 in
theorem gX6_songsOf_X6_singer : GoodIn wsX6_songsOf (wsV RX6 158 RX6 yX6_singer wsX6_singer) := goodIn_app (goodIn_of _ (by decide +kernel)) ggX6_songsOf_X6_singer
theorem dX6_songsOf_0 : decode cX6_songsOf 0 = .ok (.iconst 0, 1) := by decide +kernel
theorem dX6_songsOf_1 : decode cX6_songsOf 1 = .ok (.istore_n 2, 1) := by decide +kernel
theorem dX6_songsOf_2 : decode cX6_songsOf 2 = .ok (.iconst 0, 1) := by decide +kernel
theorem dX6_songsOf_3 : decode cX6_songsOf 3 = .ok (.istore_n 3, 1) := by decide +kernel
theorem dX6_songsOf_4 : decode cX6_songsOf 4 = .ok (.iload_n 3, 1) := by decide +kernel
theorem dX6_songsOf_5 : decode cX6_songsOf 5 = .ok (.aload_n 0, 1) := by decide +kernel
theorem dX6_songsOf_6 : decode cX6_songsOf 6 = .ok (.getfield 7, 3) := by decide +kernel
theorem dX6_songsOf_9 : decode cX6_songsOf 9 = .ok (.iconst 2, 1) := by decide +kernel
theorem dX6_songsOf_10 : decode cX6_songsOf 10 = .ok (.iaload, 1) := by decide +kernel
theorem dX6_songsOf_11 : decode cX6_songsOf 11 = .ok (.if_icmp .ge 26, 3) := by decide +kernel
theorem dX6_songsOf_14 : decode cX6_songsOf 14 = .ok (.iload_n 2, 1) := by decide +kernel
theorem dX6_songsOf_15 : decode cX6_songsOf 15 = .ok (.aload_n 0, 1) := by decide +kernel
theorem dX6_songsOf_16 : decode cX6_songsOf 16 = .ok (.iload_n 3, 1) := by decide +kernel
theorem dX6_songsOf_17 : decode cX6_songsOf 17 = .ok (.invokevirtual 158, 3) := by decide +kernel
theorem dX6_songsOf_20 : decode cX6_songsOf 20 = .ok (.iload_n 1, 1) := by decide +kernel
theorem dX6_songsOf_21 : decode cX6_songsOf 21 = .ok (.if_icmp .ne 7, 3) := by decide +kernel
theorem dX6_songsOf_24 : decode cX6_songsOf 24 = .ok (.iconst 1, 1) := by decide +kernel
theorem dX6_songsOf_25 : decode cX6_songsOf 25 = .ok (.goto 4, 3) := by decide +kernel
theorem dX6_songsOf_28 : decode cX6_songsOf 28 = .ok (.iconst 0, 1) := by decide +kernel
theorem dX6_songsOf_29 : decode cX6_songsOf 29 = .ok (.iadd, 1) := by decide +kernel
theorem dX6_songsOf_30 : decode cX6_songsOf 30 = .ok (.istore_n 2, 1) := by decide +kernel
theorem dX6_songsOf_31 : decode cX6_songsOf 31 = .ok (.iinc 3 1, 3) := by decide +kernel
theorem dX6_songsOf_34 : decode cX6_songsOf 34 = .ok (.goto (-30), 3) := by decide +kernel
theorem dX6_songsOf_37 : decode cX6_songsOf 37 = .ok (.iload_n 2, 1) := by decide +kernel
theorem dX6_songsOf_38 : decode cX6_songsOf 38 = .ok (.ireturn, 1) := by decide +kernel
set_option maxRecDepth 20000 in
theorem ggX6_areBeside_X6_ofPlot : GoodIn wsX6_areBeside wsX6_ofPlot := goodIn_r _ [6, 1, 32, 33, 34, 35, 36, 37, 38, 39, 40, 41, 42, 43, 44, 45] (by decide +kernel) (by decide +kernel)
set_option maxRecDepth 20000 in
theorem gX6_areBeside_X6_ofPlot : GoodIn wsX6_areBeside (wsV RX6 46 RX6 yX6_ofPlot wsX6_ofPlot) := goodIn_app (goodIn_of _ (by decide +kernel)) ggX6_areBeside_X6_ofPlot
set_option maxRecDepth 20000 in
theorem ggX6_areBeside_X6_touches : GoodIn wsX6_areBeside wsX6_touches := goodIn_r _ [10, 1, 2, 3, 4, 5, 6, 11, 12, 13, 14, 15, 16, 17, 18, 19, 20, 21, 22, 23, 24, 25, 26, 27, 28, 29, 30, 31, 32, 33, 34, 35, 36, 37, 38, 39, 40, 41, 42, 43, 44, 45] (by decide +kernel) (by decide +kernel)
set_option maxRecDepth 20000 in
theorem gX6_areBeside_X6_touches : GoodIn wsX6_areBeside (wsV RX6 126 RX6 yX6_touches wsX6_touches) := goodIn_app (goodIn_of _ (by decide +kernel)) ggX6_areBeside_X6_touches
theorem dX6_areBeside_0 : decode cX6_areBeside 0 = .ok (.iconst 0, 1) := by decide +kernel
theorem dX6_areBeside_1 : decode cX6_areBeside 1 = .ok (.istore_n 3, 1) := by decide +kernel
theorem dX6_areBeside_2 : decode cX6_areBeside 2 = .ok (.iconst 0, 1) := by decide +kernel
theorem dX6_areBeside_3 : decode cX6_areBeside 3 = .ok (.istore 4, 2) := by decide +kernel
theorem dX6_areBeside_5 : decode cX6_areBeside 5 = .ok (.iload 4, 2) := by decide +kernel
theorem dX6_areBeside_7 : decode cX6_areBeside 7 = .ok (.aload_n 0, 1) := by decide +kernel
theorem dX6_areBeside_8 : decode cX6_areBeside 8 = .ok (.getfield 7, 3) := by decide +kernel
theorem dX6_areBeside_11 : decode cX6_areBeside 11 = .ok (.iconst 1, 1) := by decide +kernel
theorem dX6_areBeside_12 : decode cX6_areBeside 12 = .ok (.iaload, 1) := by decide +kernel
theorem dX6_areBeside_13 : decode cX6_areBeside 13 = .ok (.if_icmp .ge 42, 3) := by decide +kernel
theorem dX6_areBeside_16 : decode cX6_areBeside 16 = .ok (.iload_n 3, 1) := by decide +kernel
theorem dX6_areBeside_17 : decode cX6_areBeside 17 = .ok (.ifCond .ne 26, 3) := by decide +kernel
theorem dX6_areBeside_20 : decode cX6_areBeside 20 = .ok (.aload_n 0, 1) := by decide +kernel
theorem dX6_areBeside_21 : decode cX6_areBeside 21 = .ok (.iload 4, 2) := by decide +kernel
theorem dX6_areBeside_23 : decode cX6_areBeside 23 = .ok (.iconst 3, 1) := by decide +kernel
theorem dX6_areBeside_24 : decode cX6_areBeside 24 = .ok (.invokevirtual 46, 3) := by decide +kernel
theorem dX6_areBeside_27 : decode cX6_areBeside 27 = .ok (.iload_n 1, 1) := by decide +kernel
theorem dX6_areBeside_28 : decode cX6_areBeside 28 = .ok (.iconst 1, 1) := by decide +kernel
theorem dX6_areBeside_29 : decode cX6_areBeside 29 = .ok (.iadd, 1) := by decide +kernel
theorem dX6_areBeside_30 : decode cX6_areBeside 30 = .ok (.if_icmp .ne 17, 3) := by decide +kernel
theorem dX6_areBeside_33 : decode cX6_areBeside 33 = .ok (.aload_n 0, 1) := by decide +kernel
theorem dX6_areBeside_34 : decode cX6_areBeside 34 = .ok (.iload 4, 2) := by decide +kernel
theorem dX6_areBeside_36 : decode cX6_areBeside 36 = .ok (.iload_n 2, 1) := by decide +kernel
theorem dX6_areBeside_37 : decode cX6_areBeside 37 = .ok (.invokevirtual 126, 3) := by decide +kernel
theorem dX6_areBeside_40 : decode cX6_areBeside 40 = .ok (.ifCond .eq 7, 3) := by decide +kernel
theorem dX6_areBeside_43 : decode cX6_areBeside 43 = .ok (.iconst 1, 1) := by decide +kernel
theorem dX6_areBeside_44 : decode cX6_areBeside 44 = .ok (.goto 4, 3) := by decide +kernel
theorem dX6_areBeside_47 : decode cX6_areBeside 47 = .ok (.iconst 0, 1) := by decide +kernel
theorem dX6_areBeside_48 : decode cX6_areBeside 48 = .ok (.istore_n 3, 1) := by decide +kernel
theorem dX6_areBeside_49 : decode cX6_areBeside 49 = .ok (.iinc 4 1, 3) := by decide +kernel
theorem dX6_areBeside_52 : decode cX6_areBeside 52 = .ok (.goto (-47), 3) := by decide +kernel
theorem dX6_areBeside_55 : decode cX6_areBeside 55 = .ok (.iload_n 3, 1) := by decide +kernel
theorem dX6_areBeside_56 : decode cX6_areBeside 56 = .ok (.ireturn, 1) := by decide +kernel
set_option maxRecDepth 20000 in
theorem ggX6_neighbours_X6_isHere : GoodIn wsX6_neighbours wsX6_isHere := goodIn_r _ [5, 6, 7, 4, 8, 9, 10, 11, 12, 13, 47, 48, 49, 50, 51, 52, 53, 54, 55, 56, 57, 58, 59, 60] (by decide +kernel) (by decide +kernel)
set_option maxRecDepth 20000 in
theorem gX6_neighbours_X6_isHere : GoodIn wsX6_neighbours (wsV RX6 122 RX6 yX6_isHere wsX6_isHere) := goodIn_app (goodIn_of _ (by decide +kernel)) ggX6_neighbours_X6_isHere
set_option maxRecDepth 20000 in
theorem ggX6_neighbours_X6_areBeside : GoodIn wsX6_neighbours wsX6_areBeside := goodIn_r _ [17, 13, 18, 19, 20, 4, 21, 22, 23, 24, 25, 26, 27, 28, 29, 30, 31, 32, 33, 34, 35, 36, 37, 38, 39, 40, 41, 42, 43, 44, 45, 46, 47, 48, 49, 50, 51, 52, 53, 54, 55, 56, 57, 58, 59, 60] (by decide +kernel) (by decide +kernel)
set_option maxRecDepth 20000 in
theorem gX6_neighbours_X6_areBeside : GoodIn wsX6_neighbours (wsV RX6 189 RX6 yX6_areBeside wsX6_areBeside) := goodIn_app (goodIn_of _ (by decide +kernel)) ggX6_neighbours_X6_areBeside
theorem dX6_neighbours_0 : decode cX6_neighbours 0 = .ok (.iconst 0, 1) := by decide +kernel
theorem dX6_neighbours_1 : decode cX6_neighbours 1 = .ok (.istore_n 2, 1) := by decide +kernel
theorem dX6_neighbours_2 : decode cX6_neighbours 2 = .ok (.iconst 0, 1) := by decide +kernel
theorem dX6_neighbours_3 : decode cX6_neighbours 3 = .ok (.istore_n 3, 1) := by decide +kernel
theorem dX6_neighbours_4 : decode cX6_neighbours 4 = .ok (.iload_n 3, 1) := by decide +kernel
theorem dX6_neighbours_5 : decode cX6_neighbours 5 = .ok (.bipush 16, 2) := by decide +kernel
theorem dX6_neighbours_7 : decode cX6_neighbours 7 = .ok (.if_icmp .ge 39, 3) := by decide +kernel
theorem dX6_neighbours_10 : decode cX6_neighbours 10 = .ok (.iload_n 2, 1) := by decide +kernel
theorem dX6_neighbours_11 : decode cX6_neighbours 11 = .ok (.iload_n 3, 1) := by decide +kernel
theorem dX6_neighbours_12 : decode cX6_neighbours 12 = .ok (.iload_n 1, 1) := by decide +kernel
theorem dX6_neighbours_13 : decode cX6_neighbours 13 = .ok (.if_icmp .eq 24, 3) := by decide +kernel
theorem dX6_neighbours_16 : decode cX6_neighbours 16 = .ok (.aload_n 0, 1) := by decide +kernel
theorem dX6_neighbours_17 : decode cX6_neighbours 17 = .ok (.iload_n 3, 1) := by decide +kernel
theorem dX6_neighbours_18 : decode cX6_neighbours 18 = .ok (.invokevirtual 122, 3) := by decide +kernel
theorem dX6_neighbours_21 : decode cX6_neighbours 21 = .ok (.ifCond .eq 16, 3) := by decide +kernel
theorem dX6_neighbours_24 : decode cX6_neighbours 24 = .ok (.aload_n 0, 1) := by decide +kernel
theorem dX6_neighbours_25 : decode cX6_neighbours 25 = .ok (.iload_n 1, 1) := by decide +kernel
theorem dX6_neighbours_26 : decode cX6_neighbours 26 = .ok (.iload_n 3, 1) := by decide +kernel
theorem dX6_neighbours_27 : decode cX6_neighbours 27 = .ok (.invokevirtual 189, 3) := by decide +kernel
theorem dX6_neighbours_30 : decode cX6_neighbours 30 = .ok (.ifCond .eq 7, 3) := by decide +kernel
theorem dX6_neighbours_33 : decode cX6_neighbours 33 = .ok (.iconst 1, 1) := by decide +kernel
theorem dX6_neighbours_34 : decode cX6_neighbours 34 = .ok (.goto 4, 3) := by decide +kernel
theorem dX6_neighbours_37 : decode cX6_neighbours 37 = .ok (.iconst 0, 1) := by decide +kernel
theorem dX6_neighbours_38 : decode cX6_neighbours 38 = .ok (.iadd, 1) := by decide +kernel
theorem dX6_neighbours_39 : decode cX6_neighbours 39 = .ok (.istore_n 2, 1) := by decide +kernel
theorem dX6_neighbours_40 : decode cX6_neighbours 40 = .ok (.iinc 3 1, 3) := by decide +kernel
theorem dX6_neighbours_43 : decode cX6_neighbours 43 = .ok (.goto (-39), 3) := by decide +kernel
theorem dX6_neighbours_46 : decode cX6_neighbours 46 = .ok (.iload_n 2, 1) := by decide +kernel
theorem dX6_neighbours_47 : decode cX6_neighbours 47 = .ok (.ireturn, 1) := by decide +kernel
set_option maxRecDepth 20000 in
theorem ggX6_loudness_X6_singer : GoodIn wsX6_loudness wsX6_singer := goodIn_r _ [6, 7, 8, 9, 5, 10, 1, 11, 12, 13, 14, 15, 16, 17, 18, 19, 20, 21, 22, 23, 24, 25, 26, 27, 28, 29, 30, 31, 32, 33, 34, 35, 36, 37, 38, 39, 44, 45, 46, 47, 48, 49, 50, 51, 52, 53, 54, 55, 56, 57] (by decide +kernel) (by decide +kernel)
set_option maxRecDepth 20000 in
theorem gX6_loudness_X6_singer : GoodIn wsX6_loudness (wsV RX6 158 RX6 yX6_singer wsX6_singer) := goodIn_app (goodIn_of _ (by decide +kernel)) ggX6_loudness_X6_singer
set_option maxRecDepth 20000 in
theorem ggX6_loudness_X6_ofSong : GoodIn wsX6_loudness wsX6_ofSong := goodIn_r _ [10, 1, 44, 45, 46, 47, 48, 49, 50, 51, 52, 53, 54, 55, 56, 57] (by decide +kernel) (by decide +kernel)
set_option maxRecDepth 20000 in
theorem gX6_loudness_X6_ofSong : GoodIn wsX6_loudness (wsV RX6 151 RX6 yX6_ofSong wsX6_ofSong) := goodIn_app (goodIn_of _ (by decide +kernel)) ggX6_loudness_X6_ofSong
set_option maxRecDepth 20000 in
theorem ggX6_loudness_X6_loud : GoodIn wsX6_loudness wsX6_loud := goodIn_r _ [42, 43] (by decide +kernel) (by decide +kernel)
set_option maxRecDepth 20000 in
theorem gX6_loudness_X6_loud : GoodIn wsX6_loudness (va_wsS RX6 192 yX6_loud wsX6_loud) := goodIn_app (goodIn_of _ (by decide +kernel)) ggX6_loudness_X6_loud
theorem dX6_loudness_0 : decode cX6_loudness 0 = .ok (.fconst 0, 1) := by decide +kernel
theorem dX6_loudness_1 : decode cX6_loudness 1 = .ok (.fstore_n 2, 1) := by decide +kernel
theorem dX6_loudness_2 : decode cX6_loudness 2 = .ok (.iconst 0, 1) := by decide +kernel
theorem dX6_loudness_3 : decode cX6_loudness 3 = .ok (.istore_n 3, 1) := by decide +kernel
theorem dX6_loudness_4 : decode cX6_loudness 4 = .ok (.iload_n 3, 1) := by decide +kernel
theorem dX6_loudness_5 : decode cX6_loudness 5 = .ok (.aload_n 0, 1) := by decide +kernel
theorem dX6_loudness_6 : decode cX6_loudness 6 = .ok (.getfield 7, 3) := by decide +kernel
theorem dX6_loudness_9 : decode cX6_loudness 9 = .ok (.iconst 2, 1) := by decide +kernel
theorem dX6_loudness_10 : decode cX6_loudness 10 = .ok (.iaload, 1) := by decide +kernel
theorem dX6_loudness_11 : decode cX6_loudness 11 = .ok (.if_icmp .ge 34, 3) := by decide +kernel
theorem dX6_loudness_14 : decode cX6_loudness 14 = .ok (.aload_n 0, 1) := by decide +kernel
theorem dX6_loudness_15 : decode cX6_loudness 15 = .ok (.iload_n 3, 1) := by decide +kernel
theorem dX6_loudness_16 : decode cX6_loudness 16 = .ok (.invokevirtual 158, 3) := by decide +kernel
theorem dX6_loudness_19 : decode cX6_loudness 19 = .ok (.iload_n 1, 1) := by decide +kernel
theorem dX6_loudness_20 : decode cX6_loudness 20 = .ok (.if_icmp .ne 17, 3) := by decide +kernel
theorem dX6_loudness_23 : decode cX6_loudness 23 = .ok (.fload_n 2, 1) := by decide +kernel
theorem dX6_loudness_24 : decode cX6_loudness 24 = .ok (.aload_n 0, 1) := by decide +kernel
theorem dX6_loudness_25 : decode cX6_loudness 25 = .ok (.iload_n 3, 1) := by decide +kernel
theorem dX6_loudness_26 : decode cX6_loudness 26 = .ok (.iconst 2, 1) := by decide +kernel
theorem dX6_loudness_27 : decode cX6_loudness 27 = .ok (.invokevirtual 151, 3) := by decide +kernel
theorem dX6_loudness_30 : decode cX6_loudness 30 = .ok (.invokestatic 192, 3) := by decide +kernel
theorem dX6_loudness_33 : decode cX6_loudness 33 = .ok (.fadd, 1) := by decide +kernel
theorem dX6_loudness_34 : decode cX6_loudness 34 = .ok (.goto 4, 3) := by decide +kernel
theorem dX6_loudness_37 : decode cX6_loudness 37 = .ok (.fload_n 2, 1) := by decide +kernel
theorem dX6_loudness_38 : decode cX6_loudness 38 = .ok (.fstore_n 2, 1) := by decide +kernel
theorem dX6_loudness_39 : decode cX6_loudness 39 = .ok (.iinc 3 1, 3) := by decide +kernel
theorem dX6_loudness_42 : decode cX6_loudness 42 = .ok (.goto (-38), 3) := by decide +kernel
theorem dX6_loudness_45 : decode cX6_loudness 45 = .ok (.fload_n 2, 1) := by decide +kernel
theorem dX6_loudness_46 : decode cX6_loudness 46 = .ok (.freturn, 1) := by decide +kernel
set_option maxRecDepth 20000 in
theorem ggX6_camper_X6_isHere : GoodIn wsX6_camper wsX6_isHere := goodIn_r _ [6, 7, 8, 5, 9, 10, 11, 12, 13, 14, 104, 105, 106, 107, 108, 109, 110, 111, 112, 113, 114, 115, 116, 117] (by decide +kernel) (by decide +kernel)
set_option maxRecDepth 20000 in
theorem gX6_camper_X6_isHere : GoodIn wsX6_camper (wsV RX6 122 RX6 yX6_isHere wsX6_isHere) := goodIn_app (goodIn_of _ (by decide +kernel)) ggX6_camper_X6_isHere
set_option maxRecDepth 20000 in
theorem ggX6_camper_X6_ofCamper : GoodIn wsX6_camper wsX6_ofCamper := goodIn_r _ [13, 14, 104, 105, 106, 107, 108, 109, 110, 111, 112, 113, 114, 115, 116, 117] (by decide +kernel) (by decide +kernel)
set_option maxRecDepth 20000 in
theorem gX6_camper_X6_ofCamper : GoodIn wsX6_camper (wsV RX6 39 RX6 yX6_ofCamper wsX6_ofCamper) := goodIn_app (goodIn_of _ (by decide +kernel)) ggX6_camper_X6_ofCamper
set_option maxRecDepth 20000 in
theorem ggX6_camper_X6_plotsOf : GoodIn wsX6_camper wsX6_plotsOf := goodIn_r _ [18, 14, 19, 20, 21, 5, 22, 104, 105, 106, 107, 108, 109, 110, 111, 112, 113, 114, 115, 116, 117] (by decide +kernel) (by decide +kernel)
set_option maxRecDepth 20000 in
theorem gX6_camper_X6_plotsOf : GoodIn wsX6_camper (wsV RX6 196 RX6 yX6_plotsOf wsX6_plotsOf) := goodIn_app (goodIn_of _ (by decide +kernel)) ggX6_camper_X6_plotsOf
set_option maxRecDepth 20000 in
theorem ggX6_camper_X6_areaOf : GoodIn wsX6_camper wsX6_areaOf := goodIn_r _ [26, 14, 19, 20, 21, 5, 22, 27, 28, 29, 30, 31, 32, 33, 34, 35, 36, 104, 105, 106, 107, 108, 109, 110, 111, 112, 113, 114, 115, 116, 117] (by decide +kernel) (by decide +kernel)
set_option maxRecDepth 20000 in
theorem gX6_camper_X6_areaOf : GoodIn wsX6_camper (wsV RX6 129 RX6 yX6_areaOf wsX6_areaOf) := goodIn_app (goodIn_of _ (by decide +kernel)) ggX6_camper_X6_areaOf
set_option maxRecDepth 20000 in
theorem ggX6_camper_X6_songsOf : GoodIn wsX6_camper wsX6_songsOf := goodIn_r _ [40, 14, 41, 42, 43, 5, 44, 45, 46, 47, 48, 49, 50, 51, 52, 53, 54, 55, 56, 19, 20, 21, 22, 57, 58, 59, 60, 31, 32, 33, 7, 8, 9, 61, 62, 63, 64, 34, 35, 36, 104, 105, 106, 107, 108, 109, 110, 111, 112, 113, 114, 115, 116, 117] (by decide +kernel) (by decide +kernel)
set_option maxRecDepth 20000 in
theorem gX6_camper_X6_songsOf : GoodIn wsX6_camper (wsV RX6 199 RX6 yX6_songsOf wsX6_songsOf) := goodIn_app (goodIn_of _ (by decide +kernel)) ggX6_camper_X6_songsOf
set_option maxRecDepth 20000 in
theorem ggX6_camper_X6_neighbours : GoodIn wsX6_camper wsX6_neighbours := goodIn_r _ [68, 2, 3, 4, 5, 6, 7, 8, 9, 10, 11, 12, 13, 14, 69, 70, 71, 72, 19, 20, 21, 22, 73, 74, 75, 76, 77, 78, 79, 80, 57, 58, 59, 60, 31, 32, 33, 61, 62, 63, 64, 34, 35, 36, 81, 82, 83, 104, 105, 106, 107, 108, 109, 110, 111, 112, 113, 114, 115, 116, 117] (by decide +kernel) (by decide +kernel)
set_option maxRecDepth 20000 in
theorem gX6_camper_X6_neighbours : GoodIn wsX6_camper (wsV RX6 202 RX6 yX6_neighbours wsX6_neighbours) := goodIn_app (goodIn_of _ (by decide +kernel)) ggX6_camper_X6_neighbours
set_option maxRecDepth 20000 in
theorem ggX6_camper_X6_loudness : GoodIn wsX6_camper wsX6_loudness := goodIn_r _ [87, 14, 41, 42, 43, 5, 44, 45, 46, 47, 48, 49, 50, 51, 52, 53, 54, 55, 56, 19, 20, 21, 22, 57, 58, 59, 60, 31, 32, 33, 7, 8, 9, 61, 62, 63, 64, 34, 35, 36, 88, 89, 90, 91, 104, 105, 106, 107, 108, 109, 110, 111, 112, 113, 114, 115, 116, 117] (by decide +kernel) (by decide +kernel)
set_option maxRecDepth 20000 in
theorem gX6_camper_X6_loudness : GoodIn wsX6_camper (wsV RX6 205 RX6 yX6_loudness wsX6_loudness) := goodIn_app (goodIn_of _ (by decide +kernel)) ggX6_camper_X6_loudness
set_option maxRecDepth 20000 in
theorem ggX6_camper_Jxf58ca_floatToIntBits_5c35a : GoodIn wsX6_camper wsJxf58ca_floatToIntBits_5c35a := goodIn_r _ [95, 96, 97, 98, 99, 100, 101, 102, 94, 103] (by decide +kernel) (by decide +kernel)
set_option maxRecDepth 20000 in
theorem gX6_camper_Jxf58ca_floatToIntBits_5c35a : GoodIn wsX6_camper (va_wsS RX6 208 yJxf58ca_floatToIntBits_5c35a wsJxf58ca_floatToIntBits_5c35a) := goodIn_app (goodIn_of _ (by decide +kernel)) ggX6_camper_Jxf58ca_floatToIntBits_5c35a
theorem dX6_camper_0 : decode cX6_camper 0 = .ok (.aload_n 0, 1) := by decide +kernel
theorem dX6_camper_1 : decode cX6_camper 1 = .ok (.iconst 0, 1) := by decide +kernel
theorem dX6_camper_2 : decode cX6_camper 2 = .ok (.putfield 31, 3) := by decide +kernel
theorem dX6_camper_5 : decode cX6_camper 5 = .ok (.aload_n 0, 1) := by decide +kernel
theorem dX6_camper_6 : decode cX6_camper 6 = .ok (.iload_n 1, 1) := by decide +kernel
theorem dX6_camper_7 : decode cX6_camper 7 = .ok (.invokevirtual 122, 3) := by decide +kernel
theorem dX6_camper_10 : decode cX6_camper 10 = .ok (.ifCond .ne 5, 3) := by decide +kernel
theorem dX6_camper_13 : decode cX6_camper 13 = .ok (.iconst (-1), 1) := by decide +kernel
theorem dX6_camper_14 : decode cX6_camper 14 = .ok (.ireturn, 1) := by decide +kernel
theorem dX6_camper_15 : decode cX6_camper 15 = .ok (.iload_n 2, 1) := by decide +kernel
theorem dX6_camper_16 : decode cX6_camper 16 = .ok (.tableswitch 86 0 6 #[44, 44, 53, 59, 65, 71, 77], 44) := by decide +kernel
theorem dX6_camper_60 : decode cX6_camper 60 = .ok (.aload_n 0, 1) := by decide +kernel
theorem dX6_camper_61 : decode cX6_camper 61 = .ok (.iload_n 1, 1) := by decide +kernel
theorem dX6_camper_62 : decode cX6_camper 62 = .ok (.iconst 1, 1) := by decide +kernel
theorem dX6_camper_63 : decode cX6_camper 63 = .ok (.iload_n 2, 1) := by decide +kernel
theorem dX6_camper_64 : decode cX6_camper 64 = .ok (.iadd, 1) := by decide +kernel
theorem dX6_camper_65 : decode cX6_camper 65 = .ok (.invokevirtual 39, 3) := by decide +kernel
theorem dX6_camper_68 : decode cX6_camper 68 = .ok (.ireturn, 1) := by decide +kernel
theorem dX6_camper_69 : decode cX6_camper 69 = .ok (.aload_n 0, 1) := by decide +kernel
theorem dX6_camper_70 : decode cX6_camper 70 = .ok (.iload_n 1, 1) := by decide +kernel
theorem dX6_camper_71 : decode cX6_camper 71 = .ok (.invokevirtual 196, 3) := by decide +kernel
theorem dX6_camper_74 : decode cX6_camper 74 = .ok (.ireturn, 1) := by decide +kernel
theorem dX6_camper_75 : decode cX6_camper 75 = .ok (.aload_n 0, 1) := by decide +kernel
theorem dX6_camper_76 : decode cX6_camper 76 = .ok (.iload_n 1, 1) := by decide +kernel
theorem dX6_camper_77 : decode cX6_camper 77 = .ok (.invokevirtual 129, 3) := by decide +kernel
theorem dX6_camper_80 : decode cX6_camper 80 = .ok (.ireturn, 1) := by decide +kernel
theorem dX6_camper_81 : decode cX6_camper 81 = .ok (.aload_n 0, 1) := by decide +kernel
theorem dX6_camper_82 : decode cX6_camper 82 = .ok (.iload_n 1, 1) := by decide +kernel
theorem dX6_camper_83 : decode cX6_camper 83 = .ok (.invokevirtual 199, 3) := by decide +kernel
theorem dX6_camper_86 : decode cX6_camper 86 = .ok (.ireturn, 1) := by decide +kernel
theorem dX6_camper_87 : decode cX6_camper 87 = .ok (.aload_n 0, 1) := by decide +kernel
theorem dX6_camper_88 : decode cX6_camper 88 = .ok (.iload_n 1, 1) := by decide +kernel
theorem dX6_camper_89 : decode cX6_camper 89 = .ok (.invokevirtual 202, 3) := by decide +kernel
theorem dX6_camper_92 : decode cX6_camper 92 = .ok (.ireturn, 1) := by decide +kernel
theorem dX6_camper_93 : decode cX6_camper 93 = .ok (.aload_n 0, 1) := by decide +kernel
theorem dX6_camper_94 : decode cX6_camper 94 = .ok (.iload_n 1, 1) := by decide +kernel
theorem dX6_camper_95 : decode cX6_camper 95 = .ok (.invokevirtual 205, 3) := by decide +kernel
theorem dX6_camper_98 : decode cX6_camper 98 = .ok (.invokestatic 208, 3) := by decide +kernel
theorem dX6_camper_101 : decode cX6_camper 101 = .ok (.ireturn, 1) := by decide +kernel
theorem dX6_camper_102 : decode cX6_camper 102 = .ok (.bipush (-2), 2) := by decide +kernel
theorem dX6_camper_104 : decode cX6_camper 104 = .ok (.ireturn, 1) := by decide +kernel
set_option maxRecDepth 20000 in
theorem ggX6_rankOf_X6_ofPlot : GoodIn wsX6_rankOf wsX6_ofPlot := goodIn_r _ [6, 1, 11, 12, 13, 14, 15, 16, 17, 18, 19, 20, 21, 22, 23, 24] (by decide +kernel) (by decide +kernel)
set_option maxRecDepth 20000 in
theorem gX6_rankOf_X6_ofPlot : GoodIn wsX6_rankOf (wsV RX6 46 RX6 yX6_ofPlot wsX6_ofPlot) := goodIn_app (goodIn_of _ (by decide +kernel)) ggX6_rankOf_X6_ofPlot
set_option maxRecDepth 20000 in
theorem ggX6_rankOf_X6_isAhead : GoodIn wsX6_rankOf wsX6_isAhead := goodIn_r _ [10, 2, 3, 4, 5, 6, 1, 11, 12, 13, 14, 15, 16, 17, 18, 19, 20, 21, 22, 23, 24] (by decide +kernel) (by decide +kernel)
set_option maxRecDepth 20000 in
theorem gX6_rankOf_X6_isAhead : GoodIn wsX6_rankOf (wsV RX6 73 RX6 yX6_isAhead wsX6_isAhead) := goodIn_app (goodIn_of _ (by decide +kernel)) ggX6_rankOf_X6_isAhead
theorem dX6_rankOf_0 : decode cX6_rankOf 0 = .ok (.iconst 0, 1) := by decide +kernel
theorem dX6_rankOf_1 : decode cX6_rankOf 1 = .ok (.istore_n 2, 1) := by decide +kernel
theorem dX6_rankOf_2 : decode cX6_rankOf 2 = .ok (.iconst 0, 1) := by decide +kernel
theorem dX6_rankOf_3 : decode cX6_rankOf 3 = .ok (.istore_n 3, 1) := by decide +kernel
theorem dX6_rankOf_4 : decode cX6_rankOf 4 = .ok (.iload_n 3, 1) := by decide +kernel
theorem dX6_rankOf_5 : decode cX6_rankOf 5 = .ok (.aload_n 0, 1) := by decide +kernel
theorem dX6_rankOf_6 : decode cX6_rankOf 6 = .ok (.getfield 7, 3) := by decide +kernel
theorem dX6_rankOf_9 : decode cX6_rankOf 9 = .ok (.iconst 1, 1) := by decide +kernel
theorem dX6_rankOf_10 : decode cX6_rankOf 10 = .ok (.iaload, 1) := by decide +kernel
theorem dX6_rankOf_11 : decode cX6_rankOf 11 = .ok (.if_icmp .ge 41, 3) := by decide +kernel
theorem dX6_rankOf_14 : decode cX6_rankOf 14 = .ok (.iload_n 2, 1) := by decide +kernel
theorem dX6_rankOf_15 : decode cX6_rankOf 15 = .ok (.aload_n 0, 1) := by decide +kernel
theorem dX6_rankOf_16 : decode cX6_rankOf 16 = .ok (.iload_n 3, 1) := by decide +kernel
theorem dX6_rankOf_17 : decode cX6_rankOf 17 = .ok (.iconst 3, 1) := by decide +kernel
theorem dX6_rankOf_18 : decode cX6_rankOf 18 = .ok (.invokevirtual 46, 3) := by decide +kernel
theorem dX6_rankOf_21 : decode cX6_rankOf 21 = .ok (.aload_n 0, 1) := by decide +kernel
theorem dX6_rankOf_22 : decode cX6_rankOf 22 = .ok (.iload_n 1, 1) := by decide +kernel
theorem dX6_rankOf_23 : decode cX6_rankOf 23 = .ok (.iconst 3, 1) := by decide +kernel
theorem dX6_rankOf_24 : decode cX6_rankOf 24 = .ok (.invokevirtual 46, 3) := by decide +kernel
theorem dX6_rankOf_27 : decode cX6_rankOf 27 = .ok (.if_icmp .ne 16, 3) := by decide +kernel
theorem dX6_rankOf_30 : decode cX6_rankOf 30 = .ok (.aload_n 0, 1) := by decide +kernel
theorem dX6_rankOf_31 : decode cX6_rankOf 31 = .ok (.iload_n 3, 1) := by decide +kernel
theorem dX6_rankOf_32 : decode cX6_rankOf 32 = .ok (.iload_n 1, 1) := by decide +kernel
theorem dX6_rankOf_33 : decode cX6_rankOf 33 = .ok (.invokevirtual 73, 3) := by decide +kernel
theorem dX6_rankOf_36 : decode cX6_rankOf 36 = .ok (.ifCond .eq 7, 3) := by decide +kernel
theorem dX6_rankOf_39 : decode cX6_rankOf 39 = .ok (.iconst 1, 1) := by decide +kernel
theorem dX6_rankOf_40 : decode cX6_rankOf 40 = .ok (.goto 4, 3) := by decide +kernel
theorem dX6_rankOf_43 : decode cX6_rankOf 43 = .ok (.iconst 0, 1) := by decide +kernel
theorem dX6_rankOf_44 : decode cX6_rankOf 44 = .ok (.iadd, 1) := by decide +kernel
theorem dX6_rankOf_45 : decode cX6_rankOf 45 = .ok (.istore_n 2, 1) := by decide +kernel
theorem dX6_rankOf_46 : decode cX6_rankOf 46 = .ok (.iinc 3 1, 3) := by decide +kernel
theorem dX6_rankOf_49 : decode cX6_rankOf 49 = .ok (.goto (-45), 3) := by decide +kernel
theorem dX6_rankOf_52 : decode cX6_rankOf 52 = .ok (.iload_n 2, 1) := by decide +kernel
theorem dX6_rankOf_53 : decode cX6_rankOf 53 = .ok (.ireturn, 1) := by decide +kernel
set_option maxRecDepth 20000 in
theorem ggX6_plotOf_X6_isHere : GoodIn wsX6_plotOf wsX6_isHere := goodIn_r _ [7, 8, 9, 6, 10, 11, 12, 13, 14, 2, 27, 28, 29, 30, 31, 32, 33, 34, 35, 36, 37, 38, 39, 40] (by decide +kernel) (by decide +kernel)
set_option maxRecDepth 20000 in
theorem gX6_plotOf_X6_isHere : GoodIn wsX6_plotOf (wsV RX6 122 RX6 yX6_isHere wsX6_isHere) := goodIn_app (goodIn_of _ (by decide +kernel)) ggX6_plotOf_X6_isHere
set_option maxRecDepth 20000 in
theorem ggX6_plotOf_X6_in : GoodIn wsX6_plotOf wsX6_in := goodIn_r _ [10] (by decide +kernel) (by decide +kernel)
set_option maxRecDepth 20000 in
theorem gX6_plotOf_X6_in : GoodIn wsX6_plotOf (va_wsS RX6 35 yX6_in wsX6_in) := goodIn_app (goodIn_of _ (by decide +kernel)) ggX6_plotOf_X6_in
set_option maxRecDepth 20000 in
theorem ggX6_plotOf_X6_ofPlot : GoodIn wsX6_plotOf wsX6_ofPlot := goodIn_r _ [18, 2, 27, 28, 29, 30, 31, 32, 33, 34, 35, 36, 37, 38, 39, 40] (by decide +kernel) (by decide +kernel)
set_option maxRecDepth 20000 in
theorem gX6_plotOf_X6_ofPlot : GoodIn wsX6_plotOf (wsV RX6 46 RX6 yX6_ofPlot wsX6_ofPlot) := goodIn_app (goodIn_of _ (by decide +kernel)) ggX6_plotOf_X6_ofPlot
set_option maxRecDepth 20000 in
theorem ggX6_plotOf_X6_rankOf : GoodIn wsX6_plotOf wsX6_rankOf := goodIn_r _ [22, 2, 15, 16, 17, 6, 18, 23, 24, 25, 26, 27, 28, 29, 30, 31, 32, 33, 34, 35, 36, 37, 38, 39, 40] (by decide +kernel) (by decide +kernel)
set_option maxRecDepth 20000 in
theorem gX6_plotOf_X6_rankOf : GoodIn wsX6_plotOf (wsV RX6 214 RX6 yX6_rankOf wsX6_rankOf) := goodIn_app (goodIn_of _ (by decide +kernel)) ggX6_plotOf_X6_rankOf
theorem dX6_plotOf_0 : decode cX6_plotOf 0 = .ok (.aload_n 0, 1) := by decide +kernel
theorem dX6_plotOf_1 : decode cX6_plotOf 1 = .ok (.iconst 0, 1) := by decide +kernel
theorem dX6_plotOf_2 : decode cX6_plotOf 2 = .ok (.putfield 31, 3) := by decide +kernel
theorem dX6_plotOf_5 : decode cX6_plotOf 5 = .ok (.aload_n 0, 1) := by decide +kernel
theorem dX6_plotOf_6 : decode cX6_plotOf 6 = .ok (.iload_n 1, 1) := by decide +kernel
theorem dX6_plotOf_7 : decode cX6_plotOf 7 = .ok (.invokevirtual 122, 3) := by decide +kernel
theorem dX6_plotOf_10 : decode cX6_plotOf 10 = .ok (.ifCond .ne 5, 3) := by decide +kernel
theorem dX6_plotOf_13 : decode cX6_plotOf 13 = .ok (.iconst (-1), 1) := by decide +kernel
theorem dX6_plotOf_14 : decode cX6_plotOf 14 = .ok (.ireturn, 1) := by decide +kernel
theorem dX6_plotOf_15 : decode cX6_plotOf 15 = .ok (.iload_n 2, 1) := by decide +kernel
theorem dX6_plotOf_16 : decode cX6_plotOf 16 = .ok (.ifCond .lt 12, 3) := by decide +kernel
theorem dX6_plotOf_19 : decode cX6_plotOf 19 = .ok (.iload_n 3, 1) := by decide +kernel
theorem dX6_plotOf_20 : decode cX6_plotOf 20 = .ok (.iconst 0, 1) := by decide +kernel
theorem dX6_plotOf_21 : decode cX6_plotOf 21 = .ok (.iconst 2, 1) := by decide +kernel
theorem dX6_plotOf_22 : decode cX6_plotOf 22 = .ok (.invokestatic 35, 3) := by decide +kernel
theorem dX6_plotOf_25 : decode cX6_plotOf 25 = .ok (.ifCond .ne 6, 3) := by decide +kernel
theorem dX6_plotOf_28 : decode cX6_plotOf 28 = .ok (.bipush (-2), 2) := by decide +kernel
theorem dX6_plotOf_30 : decode cX6_plotOf 30 = .ok (.ireturn, 1) := by decide +kernel
theorem dX6_plotOf_31 : decode cX6_plotOf 31 = .ok (.iconst 0, 1) := by decide +kernel
theorem dX6_plotOf_32 : decode cX6_plotOf 32 = .ok (.istore 4, 2) := by decide +kernel
theorem dX6_plotOf_34 : decode cX6_plotOf 34 = .ok (.iload 4, 2) := by decide +kernel
theorem dX6_plotOf_36 : decode cX6_plotOf 36 = .ok (.aload_n 0, 1) := by decide +kernel
theorem dX6_plotOf_37 : decode cX6_plotOf 37 = .ok (.getfield 7, 3) := by decide +kernel
theorem dX6_plotOf_40 : decode cX6_plotOf 40 = .ok (.iconst 1, 1) := by decide +kernel
theorem dX6_plotOf_41 : decode cX6_plotOf 41 = .ok (.iaload, 1) := by decide +kernel
theorem dX6_plotOf_42 : decode cX6_plotOf 42 = .ok (.if_icmp .ge 51, 3) := by decide +kernel
theorem dX6_plotOf_45 : decode cX6_plotOf 45 = .ok (.aload_n 0, 1) := by decide +kernel
theorem dX6_plotOf_46 : decode cX6_plotOf 46 = .ok (.iload 4, 2) := by decide +kernel
theorem dX6_plotOf_48 : decode cX6_plotOf 48 = .ok (.iconst 3, 1) := by decide +kernel
theorem dX6_plotOf_49 : decode cX6_plotOf 49 = .ok (.invokevirtual 46, 3) := by decide +kernel
theorem dX6_plotOf_52 : decode cX6_plotOf 52 = .ok (.iload_n 1, 1) := by decide +kernel
theorem dX6_plotOf_53 : decode cX6_plotOf 53 = .ok (.iconst 1, 1) := by decide +kernel
theorem dX6_plotOf_54 : decode cX6_plotOf 54 = .ok (.iadd, 1) := by decide +kernel
theorem dX6_plotOf_55 : decode cX6_plotOf 55 = .ok (.if_icmp .ne 32, 3) := by decide +kernel
theorem dX6_plotOf_58 : decode cX6_plotOf 58 = .ok (.aload_n 0, 1) := by decide +kernel
theorem dX6_plotOf_59 : decode cX6_plotOf 59 = .ok (.iload 4, 2) := by decide +kernel
theorem dX6_plotOf_61 : decode cX6_plotOf 61 = .ok (.invokevirtual 214, 3) := by decide +kernel
theorem dX6_plotOf_64 : decode cX6_plotOf 64 = .ok (.iload_n 2, 1) := by decide +kernel
theorem dX6_plotOf_65 : decode cX6_plotOf 65 = .ok (.if_icmp .ne 22, 3) := by decide +kernel
theorem dX6_plotOf_68 : decode cX6_plotOf 68 = .ok (.aload_n 0, 1) := by decide +kernel
theorem dX6_plotOf_69 : decode cX6_plotOf 69 = .ok (.iload 4, 2) := by decide +kernel
theorem dX6_plotOf_71 : decode cX6_plotOf 71 = .ok (.iload_n 3, 1) := by decide +kernel
theorem dX6_plotOf_72 : decode cX6_plotOf 72 = .ok (.iconst 2, 1) := by decide +kernel
theorem dX6_plotOf_73 : decode cX6_plotOf 73 = .ok (.if_icmp .ne 7, 3) := by decide +kernel
theorem dX6_plotOf_76 : decode cX6_plotOf 76 = .ok (.iconst 0, 1) := by decide +kernel
theorem dX6_plotOf_77 : decode cX6_plotOf 77 = .ok (.goto 6, 3) := by decide +kernel
theorem dX6_plotOf_80 : decode cX6_plotOf 80 = .ok (.iconst 1, 1) := by decide +kernel
theorem dX6_plotOf_81 : decode cX6_plotOf 81 = .ok (.iload_n 3, 1) := by decide +kernel
theorem dX6_plotOf_82 : decode cX6_plotOf 82 = .ok (.iadd, 1) := by decide +kernel
theorem dX6_plotOf_83 : decode cX6_plotOf 83 = .ok (.invokevirtual 46, 3) := by decide +kernel
theorem dX6_plotOf_86 : decode cX6_plotOf 86 = .ok (.ireturn, 1) := by decide +kernel
theorem dX6_plotOf_87 : decode cX6_plotOf 87 = .ok (.iinc 4 1, 3) := by decide +kernel
theorem dX6_plotOf_90 : decode cX6_plotOf 90 = .ok (.goto (-56), 3) := by decide +kernel
theorem dX6_plotOf_93 : decode cX6_plotOf 93 = .ok (.bipush (-5), 2) := by decide +kernel
theorem dX6_plotOf_95 : decode cX6_plotOf 95 = .ok (.ireturn, 1) := by decide +kernel
set_option maxRecDepth 20000 in
theorem ggX6_song_X6_isSong : GoodIn wsX6_song wsX6_isSong := goodIn_r _ [6, 7, 8, 9, 5, 10, 61, 62, 63, 64, 65, 66, 67, 68, 69, 70, 71, 72, 73, 74] (by decide +kernel) (by decide +kernel)
set_option maxRecDepth 20000 in
theorem gX6_song_X6_isSong : GoodIn wsX6_song (wsV RX6 155 RX6 yX6_isSong wsX6_isSong) := goodIn_app (goodIn_of _ (by decide +kernel)) ggX6_song_X6_isSong
set_option maxRecDepth 20000 in
theorem ggX6_song_X6_ofSong : GoodIn wsX6_song wsX6_ofSong := goodIn_r _ [14, 7, 61, 62, 63, 64, 65, 66, 67, 68, 69, 70, 71, 72, 73, 74] (by decide +kernel) (by decide +kernel)
set_option maxRecDepth 20000 in
theorem gX6_song_X6_ofSong : GoodIn wsX6_song (wsV RX6 151 RX6 yX6_ofSong wsX6_ofSong) := goodIn_app (goodIn_of _ (by decide +kernel)) ggX6_song_X6_ofSong
set_option maxRecDepth 20000 in
theorem ggX6_song_X6_loud : GoodIn wsX6_song wsX6_loud := goodIn_r _ [17, 18] (by decide +kernel) (by decide +kernel)
set_option maxRecDepth 20000 in
theorem gX6_song_X6_loud : GoodIn wsX6_song (va_wsS RX6 192 yX6_loud wsX6_loud) := goodIn_app (goodIn_of _ (by decide +kernel)) ggX6_song_X6_loud
set_option maxRecDepth 20000 in
theorem ggX6_song_Jxf58ca_floatToIntBits_5c35a : GoodIn wsX6_song wsJxf58ca_floatToIntBits_5c35a := goodIn_r _ [22, 23, 24, 25, 26, 27, 28, 29, 21, 30] (by decide +kernel) (by decide +kernel)
set_option maxRecDepth 20000 in
theorem gX6_song_Jxf58ca_floatToIntBits_5c35a : GoodIn wsX6_song (va_wsS RX6 208 yJxf58ca_floatToIntBits_5c35a wsJxf58ca_floatToIntBits_5c35a) := goodIn_app (goodIn_of _ (by decide +kernel)) ggX6_song_Jxf58ca_floatToIntBits_5c35a
set_option maxRecDepth 20000 in
theorem ggX6_song_X6_singer : GoodIn wsX6_song wsX6_singer := goodIn_r _ [34, 11, 12, 13, 5, 14, 7, 35, 36, 37, 38, 39, 40, 41, 42, 43, 44, 45, 46, 47, 48, 49, 50, 51, 52, 53, 8, 9, 10, 54, 55, 56, 57, 58, 59, 60, 61, 62, 63, 64, 65, 66, 67, 68, 69, 70, 71, 72, 73, 74] (by decide +kernel) (by decide +kernel)
set_option maxRecDepth 20000 in
theorem gX6_song_X6_singer : GoodIn wsX6_song (wsV RX6 158 RX6 yX6_singer wsX6_singer) := goodIn_app (goodIn_of _ (by decide +kernel)) ggX6_song_X6_singer
theorem dX6_song_0 : decode cX6_song 0 = .ok (.aload_n 0, 1) := by decide +kernel
theorem dX6_song_1 : decode cX6_song 1 = .ok (.iconst 0, 1) := by decide +kernel
theorem dX6_song_2 : decode cX6_song 2 = .ok (.putfield 31, 3) := by decide +kernel
theorem dX6_song_5 : decode cX6_song 5 = .ok (.aload_n 0, 1) := by decide +kernel
theorem dX6_song_6 : decode cX6_song 6 = .ok (.iload_n 1, 1) := by decide +kernel
theorem dX6_song_7 : decode cX6_song 7 = .ok (.invokevirtual 155, 3) := by decide +kernel
theorem dX6_song_10 : decode cX6_song 10 = .ok (.ifCond .ne 5, 3) := by decide +kernel
theorem dX6_song_13 : decode cX6_song 13 = .ok (.iconst (-1), 1) := by decide +kernel
theorem dX6_song_14 : decode cX6_song 14 = .ok (.ireturn, 1) := by decide +kernel
theorem dX6_song_15 : decode cX6_song 15 = .ok (.iload_n 2, 1) := by decide +kernel
theorem dX6_song_16 : decode cX6_song 16 = .ok (.tableswitch 58 0 3 #[32, 32, 39, 52], 32) := by decide +kernel
theorem dX6_song_48 : decode cX6_song 48 = .ok (.aload_n 0, 1) := by decide +kernel
theorem dX6_song_49 : decode cX6_song 49 = .ok (.iload_n 1, 1) := by decide +kernel
theorem dX6_song_50 : decode cX6_song 50 = .ok (.iload_n 2, 1) := by decide +kernel
theorem dX6_song_51 : decode cX6_song 51 = .ok (.invokevirtual 151, 3) := by decide +kernel
theorem dX6_song_54 : decode cX6_song 54 = .ok (.ireturn, 1) := by decide +kernel
theorem dX6_song_55 : decode cX6_song 55 = .ok (.aload_n 0, 1) := by decide +kernel
theorem dX6_song_56 : decode cX6_song 56 = .ok (.iload_n 1, 1) := by decide +kernel
theorem dX6_song_57 : decode cX6_song 57 = .ok (.iconst 2, 1) := by decide +kernel
theorem dX6_song_58 : decode cX6_song 58 = .ok (.invokevirtual 151, 3) := by decide +kernel
theorem dX6_song_61 : decode cX6_song 61 = .ok (.invokestatic 192, 3) := by decide +kernel
theorem dX6_song_64 : decode cX6_song 64 = .ok (.invokestatic 208, 3) := by decide +kernel
theorem dX6_song_67 : decode cX6_song 67 = .ok (.ireturn, 1) := by decide +kernel
theorem dX6_song_68 : decode cX6_song 68 = .ok (.aload_n 0, 1) := by decide +kernel
theorem dX6_song_69 : decode cX6_song 69 = .ok (.iload_n 1, 1) := by decide +kernel
theorem dX6_song_70 : decode cX6_song 70 = .ok (.invokevirtual 158, 3) := by decide +kernel
theorem dX6_song_73 : decode cX6_song 73 = .ok (.ireturn, 1) := by decide +kernel
theorem dX6_song_74 : decode cX6_song 74 = .ok (.bipush (-2), 2) := by decide +kernel
theorem dX6_song_76 : decode cX6_song 76 = .ok (.ireturn, 1) := by decide +kernel
theorem dX6_outside_0 : decode cX6_outside 0 = .ok (.iload_n 0, 1) := by decide +kernel
theorem dX6_outside_1 : decode cX6_outside 1 = .ok (.iload_n 1, 1) := by decide +kernel
theorem dX6_outside_2 : decode cX6_outside 2 = .ok (.if_icmp .ge 9, 3) := by decide +kernel
theorem dX6_outside_5 : decode cX6_outside 5 = .ok (.iload_n 1, 1) := by decide +kernel
theorem dX6_outside_6 : decode cX6_outside 6 = .ok (.iload_n 0, 1) := by decide +kernel
theorem dX6_outside_7 : decode cX6_outside 7 = .ok (.isub, 1) := by decide +kernel
theorem dX6_outside_8 : decode cX6_outside 8 = .ok (.goto 15, 3) := by decide +kernel
theorem dX6_outside_11 : decode cX6_outside 11 = .ok (.iload_n 0, 1) := by decide +kernel
theorem dX6_outside_12 : decode cX6_outside 12 = .ok (.iload_n 2, 1) := by decide +kernel
theorem dX6_outside_13 : decode cX6_outside 13 = .ok (.if_icmp .le 9, 3) := by decide +kernel
theorem dX6_outside_16 : decode cX6_outside 16 = .ok (.iload_n 0, 1) := by decide +kernel
theorem dX6_outside_17 : decode cX6_outside 17 = .ok (.iload_n 2, 1) := by decide +kernel
theorem dX6_outside_18 : decode cX6_outside 18 = .ok (.isub, 1) := by decide +kernel
theorem dX6_outside_19 : decode cX6_outside 19 = .ok (.goto 4, 3) := by decide +kernel
theorem dX6_outside_22 : decode cX6_outside 22 = .ok (.iconst 0, 1) := by decide +kernel
theorem dX6_outside_23 : decode cX6_outside 23 = .ok (.ireturn, 1) := by decide +kernel
set_option maxRecDepth 20000 in
theorem ggX6_distance_X6_ofPlot : GoodIn wsX6_distance wsX6_ofPlot := goodIn_r _ [5, 6, 24, 25, 26, 27, 28, 29, 30, 31, 32, 33, 34, 35, 36, 37] (by decide +kernel) (by decide +kernel)
set_option maxRecDepth 20000 in
theorem gX6_distance_X6_ofPlot : GoodIn wsX6_distance (wsV RX6 46 RX6 yX6_ofPlot wsX6_ofPlot) := goodIn_app (goodIn_of _ (by decide +kernel)) ggX6_distance_X6_ofPlot
set_option maxRecDepth 20000 in
theorem ggX6_distance_X6_lastX : GoodIn wsX6_distance wsX6_lastX := goodIn_r _ [10, 1, 2, 3, 4, 5, 6, 11, 12, 13, 24, 25, 26, 27, 28, 29, 30, 31, 32, 33, 34, 35, 36, 37] (by decide +kernel) (by decide +kernel)
set_option maxRecDepth 20000 in
theorem gX6_distance_X6_lastX : GoodIn wsX6_distance (wsV RX6 56 RX6 yX6_lastX wsX6_lastX) := goodIn_app (goodIn_of _ (by decide +kernel)) ggX6_distance_X6_lastX
set_option maxRecDepth 20000 in
theorem ggX6_distance_X6_outside : GoodIn wsX6_distance wsX6_outside := goodIn_r _ [16] (by decide +kernel) (by decide +kernel)
set_option maxRecDepth 20000 in
theorem gX6_distance_X6_outside : GoodIn wsX6_distance (va_wsS RX6 217 yX6_outside wsX6_outside) := goodIn_app (goodIn_of _ (by decide +kernel)) ggX6_distance_X6_outside
set_option maxRecDepth 20000 in
theorem ggX6_distance_X6_lastY : GoodIn wsX6_distance wsX6_lastY := goodIn_r _ [20, 1, 2, 3, 4, 5, 6, 21, 22, 23, 24, 25, 26, 27, 28, 29, 30, 31, 32, 33, 34, 35, 36, 37] (by decide +kernel) (by decide +kernel)
set_option maxRecDepth 20000 in
theorem gX6_distance_X6_lastY : GoodIn wsX6_distance (wsV RX6 59 RX6 yX6_lastY wsX6_lastY) := goodIn_app (goodIn_of _ (by decide +kernel)) ggX6_distance_X6_lastY
theorem dX6_distance_0 : decode cX6_distance 0 = .ok (.iload_n 2, 1) := by decide +kernel
theorem dX6_distance_1 : decode cX6_distance 1 = .ok (.aload_n 0, 1) := by decide +kernel
theorem dX6_distance_2 : decode cX6_distance 2 = .ok (.iload_n 1, 1) := by decide +kernel
theorem dX6_distance_3 : decode cX6_distance 3 = .ok (.iconst 1, 1) := by decide +kernel
theorem dX6_distance_4 : decode cX6_distance 4 = .ok (.invokevirtual 46, 3) := by decide +kernel
theorem dX6_distance_7 : decode cX6_distance 7 = .ok (.aload_n 0, 1) := by decide +kernel
theorem dX6_distance_8 : decode cX6_distance 8 = .ok (.iload_n 1, 1) := by decide +kernel
theorem dX6_distance_9 : decode cX6_distance 9 = .ok (.invokevirtual 56, 3) := by decide +kernel
theorem dX6_distance_12 : decode cX6_distance 12 = .ok (.invokestatic 217, 3) := by decide +kernel
theorem dX6_distance_15 : decode cX6_distance 15 = .ok (.iload_n 3, 1) := by decide +kernel
theorem dX6_distance_16 : decode cX6_distance 16 = .ok (.aload_n 0, 1) := by decide +kernel
theorem dX6_distance_17 : decode cX6_distance 17 = .ok (.iload_n 1, 1) := by decide +kernel
theorem dX6_distance_18 : decode cX6_distance 18 = .ok (.iconst 2, 1) := by decide +kernel
theorem dX6_distance_19 : decode cX6_distance 19 = .ok (.invokevirtual 46, 3) := by decide +kernel
theorem dX6_distance_22 : decode cX6_distance 22 = .ok (.aload_n 0, 1) := by decide +kernel
theorem dX6_distance_23 : decode cX6_distance 23 = .ok (.iload_n 1, 1) := by decide +kernel
theorem dX6_distance_24 : decode cX6_distance 24 = .ok (.invokevirtual 59, 3) := by decide +kernel
theorem dX6_distance_27 : decode cX6_distance 27 = .ok (.invokestatic 217, 3) := by decide +kernel
theorem dX6_distance_30 : decode cX6_distance 30 = .ok (.iadd, 1) := by decide +kernel
theorem dX6_distance_31 : decode cX6_distance 31 = .ok (.ireturn, 1) := by decide +kernel
set_option maxRecDepth 20000 in
theorem ggX6_nextOnWay_X6_touch : GoodIn wsX6_nextOnWay wsX6_touch := goodIn_r _ [7, 8, 9, 10, 6, 11, 12, 13, 14, 15, 2, 16, 17, 18, 19, 20, 21, 22, 23, 24, 25, 26, 27, 28, 40, 41, 42, 43, 44, 45, 46, 47, 48, 49, 50, 51, 52, 53] (by decide +kernel) (by decide +kernel)
set_option maxRecDepth 20000 in
theorem gX6_nextOnWay_X6_touch : GoodIn wsX6_nextOnWay (wsV RX6 80 RX6 yX6_touch wsX6_touch) := goodIn_app (goodIn_of _ (by decide +kernel)) ggX6_nextOnWay_X6_touch
set_option maxRecDepth 20000 in
theorem ggX6_nextOnWay_X6_distance : GoodIn wsX6_nextOnWay wsX6_distance := goodIn_r _ [32, 12, 13, 14, 6, 15, 2, 8, 9, 10, 11, 16, 17, 18, 33, 34, 35, 19, 20, 21, 22, 23, 24, 25, 40, 41, 42, 43, 44, 45, 46, 47, 48, 49, 50, 51, 52, 53] (by decide +kernel) (by decide +kernel)
set_option maxRecDepth 20000 in
theorem gX6_nextOnWay_X6_distance : GoodIn wsX6_nextOnWay (wsV RX6 222 RX6 yX6_distance wsX6_distance) := goodIn_app (goodIn_of _ (by decide +kernel)) ggX6_nextOnWay_X6_distance
set_option maxRecDepth 20000 in
theorem ggX6_nextOnWay_X6_isAhead : GoodIn wsX6_nextOnWay wsX6_isAhead := goodIn_r _ [39, 12, 13, 14, 6, 15, 2, 40, 41, 42, 43, 44, 45, 46, 47, 48, 49, 50, 51, 52, 53] (by decide +kernel) (by decide +kernel)
set_option maxRecDepth 20000 in
theorem gX6_nextOnWay_X6_isAhead : GoodIn wsX6_nextOnWay (wsV RX6 73 RX6 yX6_isAhead wsX6_isAhead) := goodIn_app (goodIn_of _ (by decide +kernel)) ggX6_nextOnWay_X6_isAhead
theorem dX6_nextOnWay_0 : decode cX6_nextOnWay 0 = .ok (.bipush (-5), 2) := by decide +kernel
theorem dX6_nextOnWay_2 : decode cX6_nextOnWay 2 = .ok (.istore 4, 2) := by decide +kernel
theorem dX6_nextOnWay_4 : decode cX6_nextOnWay 4 = .ok (.ldc 221, 2) := by decide +kernel
theorem dX6_nextOnWay_6 : decode cX6_nextOnWay 6 = .ok (.istore 5, 2) := by decide +kernel
theorem dX6_nextOnWay_8 : decode cX6_nextOnWay 8 = .ok (.iconst 0, 1) := by decide +kernel
theorem dX6_nextOnWay_9 : decode cX6_nextOnWay 9 = .ok (.istore 6, 2) := by decide +kernel
theorem dX6_nextOnWay_11 : decode cX6_nextOnWay 11 = .ok (.iload 6, 2) := by decide +kernel
theorem dX6_nextOnWay_13 : decode cX6_nextOnWay 13 = .ok (.aload_n 0, 1) := by decide +kernel
theorem dX6_nextOnWay_14 : decode cX6_nextOnWay 14 = .ok (.getfield 7, 3) := by decide +kernel
theorem dX6_nextOnWay_17 : decode cX6_nextOnWay 17 = .ok (.iconst 1, 1) := by decide +kernel
theorem dX6_nextOnWay_18 : decode cX6_nextOnWay 18 = .ok (.iaload, 1) := by decide +kernel
theorem dX6_nextOnWay_19 : decode cX6_nextOnWay 19 = .ok (.if_icmp .ge 95, 3) := by decide +kernel
theorem dX6_nextOnWay_22 : decode cX6_nextOnWay 22 = .ok (.iload 6, 2) := by decide +kernel
theorem dX6_nextOnWay_24 : decode cX6_nextOnWay 24 = .ok (.iload_n 1, 1) := by decide +kernel
theorem dX6_nextOnWay_25 : decode cX6_nextOnWay 25 = .ok (.if_icmp .eq 83, 3) := by decide +kernel
theorem dX6_nextOnWay_28 : decode cX6_nextOnWay 28 = .ok (.aload_n 0, 1) := by decide +kernel
theorem dX6_nextOnWay_29 : decode cX6_nextOnWay 29 = .ok (.iload_n 1, 1) := by decide +kernel
theorem dX6_nextOnWay_30 : decode cX6_nextOnWay 30 = .ok (.iload 6, 2) := by decide +kernel
theorem dX6_nextOnWay_32 : decode cX6_nextOnWay 32 = .ok (.invokevirtual 80, 3) := by decide +kernel
theorem dX6_nextOnWay_35 : decode cX6_nextOnWay 35 = .ok (.ifCond .eq 73, 3) := by decide +kernel
theorem dX6_nextOnWay_38 : decode cX6_nextOnWay 38 = .ok (.aload_n 0, 1) := by decide +kernel
theorem dX6_nextOnWay_39 : decode cX6_nextOnWay 39 = .ok (.iload 6, 2) := by decide +kernel
theorem dX6_nextOnWay_41 : decode cX6_nextOnWay 41 = .ok (.iload_n 2, 1) := by decide +kernel
theorem dX6_nextOnWay_42 : decode cX6_nextOnWay 42 = .ok (.iload_n 3, 1) := by decide +kernel
theorem dX6_nextOnWay_43 : decode cX6_nextOnWay 43 = .ok (.invokevirtual 222, 3) := by decide +kernel
theorem dX6_nextOnWay_46 : decode cX6_nextOnWay 46 = .ok (.istore 7, 2) := by decide +kernel
theorem dX6_nextOnWay_48 : decode cX6_nextOnWay 48 = .ok (.iload 7, 2) := by decide +kernel
theorem dX6_nextOnWay_50 : decode cX6_nextOnWay 50 = .ok (.iload 5, 2) := by decide +kernel
theorem dX6_nextOnWay_52 : decode cX6_nextOnWay 52 = .ok (.if_icmp .lt 21, 3) := by decide +kernel
theorem dX6_nextOnWay_55 : decode cX6_nextOnWay 55 = .ok (.iload 7, 2) := by decide +kernel
theorem dX6_nextOnWay_57 : decode cX6_nextOnWay 57 = .ok (.iload 5, 2) := by decide +kernel
theorem dX6_nextOnWay_59 : decode cX6_nextOnWay 59 = .ok (.if_icmp .ne 18, 3) := by decide +kernel
theorem dX6_nextOnWay_62 : decode cX6_nextOnWay 62 = .ok (.aload_n 0, 1) := by decide +kernel
theorem dX6_nextOnWay_63 : decode cX6_nextOnWay 63 = .ok (.iload 6, 2) := by decide +kernel
theorem dX6_nextOnWay_65 : decode cX6_nextOnWay 65 = .ok (.iload 4, 2) := by decide +kernel
theorem dX6_nextOnWay_67 : decode cX6_nextOnWay 67 = .ok (.invokevirtual 73, 3) := by decide +kernel
theorem dX6_nextOnWay_70 : decode cX6_nextOnWay 70 = .ok (.ifCond .eq 7, 3) := by decide +kernel
theorem dX6_nextOnWay_73 : decode cX6_nextOnWay 73 = .ok (.iconst 1, 1) := by decide +kernel
theorem dX6_nextOnWay_74 : decode cX6_nextOnWay 74 = .ok (.goto 4, 3) := by decide +kernel
theorem dX6_nextOnWay_77 : decode cX6_nextOnWay 77 = .ok (.iconst 0, 1) := by decide +kernel
theorem dX6_nextOnWay_78 : decode cX6_nextOnWay 78 = .ok (.istore 8, 2) := by decide +kernel
theorem dX6_nextOnWay_80 : decode cX6_nextOnWay 80 = .ok (.iload 8, 2) := by decide +kernel
theorem dX6_nextOnWay_82 : decode cX6_nextOnWay 82 = .ok (.ifCond .eq 8, 3) := by decide +kernel
theorem dX6_nextOnWay_85 : decode cX6_nextOnWay 85 = .ok (.iload 6, 2) := by decide +kernel
theorem dX6_nextOnWay_87 : decode cX6_nextOnWay 87 = .ok (.goto 5, 3) := by decide +kernel
theorem dX6_nextOnWay_90 : decode cX6_nextOnWay 90 = .ok (.iload 4, 2) := by decide +kernel
theorem dX6_nextOnWay_92 : decode cX6_nextOnWay 92 = .ok (.istore 4, 2) := by decide +kernel
theorem dX6_nextOnWay_94 : decode cX6_nextOnWay 94 = .ok (.iload 8, 2) := by decide +kernel
theorem dX6_nextOnWay_96 : decode cX6_nextOnWay 96 = .ok (.ifCond .eq 8, 3) := by decide +kernel
theorem dX6_nextOnWay_99 : decode cX6_nextOnWay 99 = .ok (.iload 7, 2) := by decide +kernel
theorem dX6_nextOnWay_101 : decode cX6_nextOnWay 101 = .ok (.goto 5, 3) := by decide +kernel
theorem dX6_nextOnWay_104 : decode cX6_nextOnWay 104 = .ok (.iload 5, 2) := by decide +kernel
theorem dX6_nextOnWay_106 : decode cX6_nextOnWay 106 = .ok (.istore 5, 2) := by decide +kernel
theorem dX6_nextOnWay_108 : decode cX6_nextOnWay 108 = .ok (.iinc 6 1, 3) := by decide +kernel
theorem dX6_nextOnWay_111 : decode cX6_nextOnWay 111 = .ok (.goto (-100), 3) := by decide +kernel
theorem dX6_nextOnWay_114 : decode cX6_nextOnWay 114 = .ok (.iload 4, 2) := by decide +kernel
theorem dX6_nextOnWay_116 : decode cX6_nextOnWay 116 = .ok (.ireturn, 1) := by decide +kernel
set_option maxRecDepth 20000 in
theorem ggX6_onWay_X6_ofCamper : GoodIn wsX6_onWay wsX6_ofCamper := goodIn_r _ [5, 6, 59, 60, 61, 62, 63, 64, 65, 66, 67, 68, 69, 70, 71, 72] (by decide +kernel) (by decide +kernel)
set_option maxRecDepth 20000 in
theorem gX6_onWay_X6_ofCamper : GoodIn wsX6_onWay (wsV RX6 39 RX6 yX6_ofCamper wsX6_ofCamper) := goodIn_app (goodIn_of _ (by decide +kernel)) ggX6_onWay_X6_ofCamper
set_option maxRecDepth 20000 in
theorem ggX6_onWay_X6_plotAt : GoodIn wsX6_onWay wsX6_plotAt := goodIn_r _ [10, 11, 12, 13, 4, 14, 15, 16, 17, 18, 6, 19, 20, 21, 22, 23, 24, 25, 26, 27, 28, 29, 30, 31, 32, 33, 34, 35, 59, 60, 61, 62, 63, 64, 65, 66, 67, 68, 69, 70, 71, 72] (by decide +kernel) (by decide +kernel)
set_option maxRecDepth 20000 in
theorem gX6_onWay_X6_plotAt : GoodIn wsX6_onWay (wsV RX6 83 RX6 yX6_plotAt wsX6_plotAt) := goodIn_app (goodIn_of _ (by decide +kernel)) ggX6_onWay_X6_plotAt
set_option maxRecDepth 20000 in
theorem ggX6_onWay_X6_has : GoodIn wsX6_onWay wsX6_has := goodIn_r _ [14, 15, 16, 17, 4, 18, 6, 19, 20, 21, 22, 23, 24, 25, 26, 27, 28, 29, 30, 31, 32, 33, 34, 35, 59, 60, 61, 62, 63, 64, 65, 66, 67, 68, 69, 70, 71, 72] (by decide +kernel) (by decide +kernel)
set_option maxRecDepth 20000 in
theorem gX6_onWay_X6_has : GoodIn wsX6_onWay (wsV RX6 62 RX6 yX6_has wsX6_has) := goodIn_app (goodIn_of _ (by decide +kernel)) ggX6_onWay_X6_has
set_option maxRecDepth 20000 in
theorem ggX6_onWay_X6_nextOnWay : GoodIn wsX6_onWay wsX6_nextOnWay := goodIn_r _ [39, 40, 6, 41, 42, 43, 4, 44, 19, 20, 21, 22, 15, 16, 17, 18, 23, 24, 25, 29, 30, 31, 32, 33, 34, 35, 45, 46, 47, 48, 49, 50, 51, 52, 53, 54, 55, 56, 57, 58, 59, 60, 61, 62, 63, 64, 65, 66, 67, 68, 69, 70, 71, 72] (by decide +kernel) (by decide +kernel)
set_option maxRecDepth 20000 in
theorem gX6_onWay_X6_nextOnWay : GoodIn wsX6_onWay (wsV RX6 225 RX6 yX6_nextOnWay wsX6_nextOnWay) := goodIn_app (goodIn_of _ (by decide +kernel)) ggX6_onWay_X6_nextOnWay
theorem dX6_onWay_0 : decode cX6_onWay 0 = .ok (.aload_n 0, 1) := by decide +kernel
theorem dX6_onWay_1 : decode cX6_onWay 1 = .ok (.aload_n 0, 1) := by decide +kernel
theorem dX6_onWay_2 : decode cX6_onWay 2 = .ok (.iload_n 1, 1) := by decide +kernel
theorem dX6_onWay_3 : decode cX6_onWay 3 = .ok (.iconst 1, 1) := by decide +kernel
theorem dX6_onWay_4 : decode cX6_onWay 4 = .ok (.invokevirtual 39, 3) := by decide +kernel
theorem dX6_onWay_7 : decode cX6_onWay 7 = .ok (.aload_n 0, 1) := by decide +kernel
theorem dX6_onWay_8 : decode cX6_onWay 8 = .ok (.iload_n 1, 1) := by decide +kernel
theorem dX6_onWay_9 : decode cX6_onWay 9 = .ok (.iconst 2, 1) := by decide +kernel
theorem dX6_onWay_10 : decode cX6_onWay 10 = .ok (.invokevirtual 39, 3) := by decide +kernel
theorem dX6_onWay_13 : decode cX6_onWay 13 = .ok (.invokevirtual 83, 3) := by decide +kernel
theorem dX6_onWay_16 : decode cX6_onWay 16 = .ok (.istore 5, 2) := by decide +kernel
theorem dX6_onWay_18 : decode cX6_onWay 18 = .ok (.iconst 0, 1) := by decide +kernel
theorem dX6_onWay_19 : decode cX6_onWay 19 = .ok (.istore 6, 2) := by decide +kernel
theorem dX6_onWay_21 : decode cX6_onWay 21 = .ok (.iload 6, 2) := by decide +kernel
theorem dX6_onWay_23 : decode cX6_onWay 23 = .ok (.iload 4, 2) := by decide +kernel
theorem dX6_onWay_25 : decode cX6_onWay 25 = .ok (.if_icmp .ge 30, 3) := by decide +kernel
theorem dX6_onWay_28 : decode cX6_onWay 28 = .ok (.aload_n 0, 1) := by decide +kernel
theorem dX6_onWay_29 : decode cX6_onWay 29 = .ok (.iload 5, 2) := by decide +kernel
theorem dX6_onWay_31 : decode cX6_onWay 31 = .ok (.iload_n 2, 1) := by decide +kernel

theorem dX6_onWay_57 : decode cX6_onWay 57 = .ok (.iload 4, 2) := by decide +kernel
theorem dX6_onWay_59 : decode cX6_onWay 59 = .ok (.if_icmp .ne 8, 3) := by decide +kernel
theorem dX6_onWay_62 : decode cX6_onWay 62 = .ok (.iload 5, 2) := by decide +kernel
theorem dX6_onWay_64 : decode cX6_onWay 64 = .ok (.goto 5, 3) := by decide +kernel
theorem dX6_onWay_67 : decode cX6_onWay 67 = .ok (.bipush (-5), 2) := by decide +kernel
theorem dX6_onWay_69 : decode cX6_onWay 69 = .ok (.ireturn, 1) := by decide +kernel
set_option maxRecDepth 20000 in
theorem ggX6_way_X6_isHere : GoodIn wsX6_way wsX6_isHere := goodIn_r _ [6, 7, 8, 5, 9, 10, 11, 12, 13, 14, 71, 72, 73, 74, 75, 76, 77, 78, 79, 80, 81, 82, 83, 84] (by decide +kernel) (by decide +kernel)
set_option maxRecDepth 20000 in
theorem gX6_way_X6_isHere : GoodIn wsX6_way (wsV RX6 122 RX6 yX6_isHere wsX6_isHere) := goodIn_app (goodIn_of _ (by decide +kernel)) ggX6_way_X6_isHere
set_option maxRecDepth 20000 in
theorem ggX6_way_X6_isPoint : GoodIn wsX6_way wsX6_isPoint := goodIn_r _ [17, 7, 8, 5, 9] (by decide +kernel) (by decide +kernel)
set_option maxRecDepth 20000 in
theorem gX6_way_X6_isPoint : GoodIn wsX6_way (va_wsS RX6 94 yX6_isPoint wsX6_isPoint) := goodIn_app (goodIn_of _ (by decide +kernel)) ggX6_way_X6_isPoint
set_option maxRecDepth 20000 in
theorem ggX6_way_X6_in : GoodIn wsX6_way wsX6_in := goodIn_r _ [9] (by decide +kernel) (by decide +kernel)
set_option maxRecDepth 20000 in
theorem gX6_way_X6_in : GoodIn wsX6_way (va_wsS RX6 35 yX6_in wsX6_in) := goodIn_app (goodIn_of _ (by decide +kernel)) ggX6_way_X6_in
set_option maxRecDepth 20000 in
theorem ggX6_way_X6_onWay : GoodIn wsX6_way wsX6_onWay := goodIn_r _ [21, 10, 11, 12, 5, 13, 14, 22, 23, 24, 25, 26, 27, 28, 29, 30, 31, 32, 33, 34, 35, 36, 37, 38, 39, 40, 7, 8, 9, 41, 42, 43, 44, 45, 46, 47, 48, 49, 50, 51, 52, 53, 54, 55, 56, 57, 58, 59, 60, 61, 62, 63, 64, 65, 66, 67, 68, 69, 70, 71, 72, 73, 74, 75, 76, 77, 78, 79, 80, 81, 82, 83, 84] (by decide +kernel) (by decide +kernel)
set_option maxRecDepth 20000 in
theorem gX6_way_X6_onWay : GoodIn wsX6_way (wsV RX6 228 RX6 yX6_onWay wsX6_onWay) := goodIn_app (goodIn_of _ (by decide +kernel)) ggX6_way_X6_onWay
set_option maxRecDepth 20000 in
theorem ggX6_way_X6_ofPlot : GoodIn wsX6_way wsX6_ofPlot := goodIn_r _ [33, 14, 71, 72, 73, 74, 75, 76, 77, 78, 79, 80, 81, 82, 83, 84] (by decide +kernel) (by decide +kernel)
set_option maxRecDepth 20000 in
theorem gX6_way_X6_ofPlot : GoodIn wsX6_way (wsV RX6 46 RX6 yX6_ofPlot wsX6_ofPlot) := goodIn_app (goodIn_of _ (by decide +kernel)) ggX6_way_X6_ofPlot
theorem dX6_way_0 : decode cX6_way 0 = .ok (.aload_n 0, 1) := by decide +kernel
theorem dX6_way_1 : decode cX6_way 1 = .ok (.iconst 0, 1) := by decide +kernel
theorem dX6_way_2 : decode cX6_way 2 = .ok (.putfield 31, 3) := by decide +kernel
theorem dX6_way_5 : decode cX6_way 5 = .ok (.aload_n 0, 1) := by decide +kernel
theorem dX6_way_6 : decode cX6_way 6 = .ok (.iload_n 1, 1) := by decide +kernel
theorem dX6_way_7 : decode cX6_way 7 = .ok (.invokevirtual 122, 3) := by decide +kernel
theorem dX6_way_10 : decode cX6_way 10 = .ok (.ifCond .eq 11, 3) := by decide +kernel
theorem dX6_way_13 : decode cX6_way 13 = .ok (.iload_n 2, 1) := by decide +kernel
theorem dX6_way_14 : decode cX6_way 14 = .ok (.iload_n 3, 1) := by decide +kernel
theorem dX6_way_15 : decode cX6_way 15 = .ok (.invokestatic 94, 3) := by decide +kernel
theorem dX6_way_18 : decode cX6_way 18 = .ok (.ifCond .ne 5, 3) := by decide +kernel
theorem dX6_way_21 : decode cX6_way 21 = .ok (.iconst (-1), 1) := by decide +kernel
theorem dX6_way_22 : decode cX6_way 22 = .ok (.ireturn, 1) := by decide +kernel
theorem dX6_way_23 : decode cX6_way 23 = .ok (.iload 4, 2) := by decide +kernel
theorem dX6_way_25 : decode cX6_way 25 = .ok (.ifCond .lt 13, 3) := by decide +kernel
theorem dX6_way_28 : decode cX6_way 28 = .ok (.iload 5, 2) := by decide +kernel
theorem dX6_way_30 : decode cX6_way 30 = .ok (.iconst 0, 1) := by decide +kernel
theorem dX6_way_31 : decode cX6_way 31 = .ok (.iconst 2, 1) := by decide +kernel
theorem dX6_way_32 : decode cX6_way 32 = .ok (.invokestatic 35, 3) := by decide +kernel
theorem dX6_way_35 : decode cX6_way 35 = .ok (.ifCond .ne 6, 3) := by decide +kernel
theorem dX6_way_38 : decode cX6_way 38 = .ok (.bipush (-2), 2) := by decide +kernel
theorem dX6_way_40 : decode cX6_way 40 = .ok (.ireturn, 1) := by decide +kernel
theorem dX6_way_41 : decode cX6_way 41 = .ok (.aload_n 0, 1) := by decide +kernel
theorem dX6_way_42 : decode cX6_way 42 = .ok (.iload_n 1, 1) := by decide +kernel
theorem dX6_way_43 : decode cX6_way 43 = .ok (.iload_n 2, 1) := by decide +kernel
theorem dX6_way_44 : decode cX6_way 44 = .ok (.iload_n 3, 1) := by decide +kernel
theorem dX6_way_45 : decode cX6_way 45 = .ok (.iload 4, 2) := by decide +kernel
theorem dX6_way_47 : decode cX6_way 47 = .ok (.invokevirtual 228, 3) := by decide +kernel
theorem dX6_way_50 : decode cX6_way 50 = .ok (.istore 6, 2) := by decide +kernel
theorem dX6_way_52 : decode cX6_way 52 = .ok (.iload 6, 2) := by decide +kernel
theorem dX6_way_54 : decode cX6_way 54 = .ok (.bipush (-5), 2) := by decide +kernel
theorem dX6_way_56 : decode cX6_way 56 = .ok (.if_icmp .ne 8, 3) := by decide +kernel
theorem dX6_way_59 : decode cX6_way 59 = .ok (.bipush (-5), 2) := by decide +kernel
theorem dX6_way_61 : decode cX6_way 61 = .ok (.goto 32, 3) := by decide +kernel
theorem dX6_way_64 : decode cX6_way 64 = .ok (.iload 5, 2) := by decide +kernel
theorem dX6_way_66 : decode cX6_way 66 = .ok (.ifCond .ne 15, 3) := by decide +kernel
theorem dX6_way_69 : decode cX6_way 69 = .ok (.aload_n 0, 1) := by decide +kernel
theorem dX6_way_70 : decode cX6_way 70 = .ok (.iload 6, 2) := by decide +kernel
theorem dX6_way_72 : decode cX6_way 72 = .ok (.iconst 3, 1) := by decide +kernel
theorem dX6_way_73 : decode cX6_way 73 = .ok (.invokevirtual 46, 3) := by decide +kernel
theorem dX6_way_76 : decode cX6_way 76 = .ok (.iconst 1, 1) := by decide +kernel
theorem dX6_way_77 : decode cX6_way 77 = .ok (.isub, 1) := by decide +kernel
theorem dX6_way_78 : decode cX6_way 78 = .ok (.goto 15, 3) := by decide +kernel
theorem dX6_way_81 : decode cX6_way 81 = .ok (.aload_n 0, 1) := by decide +kernel
theorem dX6_way_82 : decode cX6_way 82 = .ok (.iload 6, 2) := by decide +kernel
theorem dX6_way_84 : decode cX6_way 84 = .ok (.iconst 1, 1) := by decide +kernel
theorem dX6_way_85 : decode cX6_way 85 = .ok (.iload 5, 2) := by decide +kernel
theorem dX6_way_87 : decode cX6_way 87 = .ok (.iadd, 1) := by decide +kernel
theorem dX6_way_88 : decode cX6_way 88 = .ok (.iconst 1, 1) := by decide +kernel
theorem dX6_way_89 : decode cX6_way 89 = .ok (.isub, 1) := by decide +kernel
theorem dX6_way_90 : decode cX6_way 90 = .ok (.invokevirtual 46, 3) := by decide +kernel
theorem dX6_way_93 : decode cX6_way 93 = .ok (.ireturn, 1) := by decide +kernel
set_option maxRecDepth 20000 in
theorem ggX6_would_X6_isPoint : GoodIn wsX6_would wsX6_isPoint := goodIn_r _ [5, 6, 7, 4, 8] (by decide +kernel) (by decide +kernel)
set_option maxRecDepth 20000 in
theorem gX6_would_X6_isPoint : GoodIn wsX6_would (va_wsS RX6 94 yX6_isPoint wsX6_isPoint) := goodIn_app (goodIn_of _ (by decide +kernel)) ggX6_would_X6_isPoint
set_option maxRecDepth 20000 in
theorem ggX6_would_X6_in : GoodIn wsX6_would wsX6_in := goodIn_r _ [8] (by decide +kernel) (by decide +kernel)
set_option maxRecDepth 20000 in
theorem gX6_would_X6_in : GoodIn wsX6_would (va_wsS RX6 35 yX6_in wsX6_in) := goodIn_app (goodIn_of _ (by decide +kernel)) ggX6_would_X6_in
set_option maxRecDepth 20000 in
theorem ggX6_would_X6_refuses : GoodIn wsX6_would wsX6_refuses := goodIn_r _ [12, 13, 14, 15, 16, 4, 17, 18, 19, 20, 21, 22, 23, 24, 25, 26, 27, 28, 29, 30, 31, 32, 6, 7, 8, 33, 34, 35, 36, 37, 38, 39, 40, 41, 42, 43, 81, 82, 83, 84, 85, 86, 87, 88, 89, 90, 91, 92, 93, 94] (by decide +kernel) (by decide +kernel)
set_option maxRecDepth 20000 in
theorem gX6_would_X6_refuses : GoodIn wsX6_would (wsV RX6 97 RX6 yX6_refuses wsX6_refuses) := goodIn_app (goodIn_of _ (by decide +kernel)) ggX6_would_X6_refuses
set_option maxRecDepth 20000 in
theorem ggX6_would_X6_plotAt : GoodIn wsX6_would wsX6_plotAt := goodIn_r _ [17, 18, 19, 20, 4, 21, 22, 23, 24, 25, 13, 26, 27, 28, 29, 30, 31, 32, 6, 7, 8, 33, 34, 35, 36, 37, 38, 39, 81, 82, 83, 84, 85, 86, 87, 88, 89, 90, 91, 92, 93, 94] (by decide +kernel) (by decide +kernel)
set_option maxRecDepth 20000 in
theorem gX6_would_X6_plotAt : GoodIn wsX6_would (wsV RX6 83 RX6 yX6_plotAt wsX6_plotAt) := goodIn_app (goodIn_of _ (by decide +kernel)) ggX6_would_X6_plotAt
set_option maxRecDepth 20000 in
theorem ggX6_would_X6_ofPlot : GoodIn wsX6_would wsX6_ofPlot := goodIn_r _ [25, 13, 81, 82, 83, 84, 85, 86, 87, 88, 89, 90, 91, 92, 93, 94] (by decide +kernel) (by decide +kernel)
set_option maxRecDepth 20000 in
theorem gX6_would_X6_ofPlot : GoodIn wsX6_would (wsV RX6 46 RX6 yX6_ofPlot wsX6_ofPlot) := goodIn_app (goodIn_of _ (by decide +kernel)) ggX6_would_X6_ofPlot
set_option maxRecDepth 20000 in
theorem ggX6_would_X6_putAside : GoodIn wsX6_would wsX6_putAside := goodIn_r _ [47, 48, 13, 81, 82, 83, 84, 85, 86, 87, 88, 89, 90, 91, 92, 93, 94] (by decide +kernel) (by decide +kernel)
set_option maxRecDepth 20000 in
theorem gX6_would_X6_putAside : GoodIn wsX6_would (wsV RX6 110 RX6 yX6_putAside wsX6_putAside) := goodIn_app (goodIn_of _ (by decide +kernel)) ggX6_would_X6_putAside
set_option maxRecDepth 20000 in
theorem ggX6_would_X6_comes : GoodIn wsX6_would wsX6_comes := goodIn_r _ [52, 13, 53, 54, 55, 4, 56, 14, 15, 16, 17, 18, 19, 20, 21, 22, 23, 24, 25, 26, 27, 28, 29, 30, 31, 32, 6, 7, 8, 33, 34, 35, 36, 37, 38, 39, 57, 58, 59, 60, 61, 62, 63, 64, 40, 41, 42, 43, 81, 82, 83, 84, 85, 86, 87, 88, 89, 90, 91, 92, 93, 94] (by decide +kernel) (by decide +kernel)
set_option maxRecDepth 20000 in
theorem gX6_would_X6_comes : GoodIn wsX6_would (wsV RX6 103 RX6 yX6_comes wsX6_comes) := goodIn_app (goodIn_of _ (by decide +kernel)) ggX6_would_X6_comes
set_option maxRecDepth 20000 in
theorem ggX6_would_X6_songsOf : GoodIn wsX6_would wsX6_songsOf := goodIn_r _ [68, 13, 69, 70, 71, 4, 72, 73, 74, 75, 76, 14, 15, 16, 17, 18, 19, 20, 21, 22, 23, 24, 25, 26, 27, 28, 29, 30, 31, 32, 6, 7, 8, 33, 34, 35, 36, 37, 38, 39, 81, 82, 83, 84, 85, 86, 87, 88, 89, 90, 91, 92, 93, 94] (by decide +kernel) (by decide +kernel)
set_option maxRecDepth 20000 in
theorem gX6_would_X6_songsOf : GoodIn wsX6_would (wsV RX6 199 RX6 yX6_songsOf wsX6_songsOf) := goodIn_app (goodIn_of _ (by decide +kernel)) ggX6_would_X6_songsOf
set_option maxRecDepth 20000 in
theorem ggX6_would_X6_takeBack : GoodIn wsX6_would wsX6_takeBack := goodIn_r _ [80, 13, 48, 81, 82, 83, 84, 85, 86, 87, 88, 89, 90, 91, 92, 93, 94] (by decide +kernel) (by decide +kernel)
set_option maxRecDepth 20000 in
theorem gX6_would_X6_takeBack : GoodIn wsX6_would (wsV RX6 116 RX6 yX6_takeBack wsX6_takeBack) := goodIn_app (goodIn_of _ (by decide +kernel)) ggX6_would_X6_takeBack
theorem dX6_would_0 : decode cX6_would 0 = .ok (.aload_n 0, 1) := by decide +kernel
theorem dX6_would_1 : decode cX6_would 1 = .ok (.iconst 0, 1) := by decide +kernel
theorem dX6_would_2 : decode cX6_would 2 = .ok (.putfield 31, 3) := by decide +kernel
theorem dX6_would_5 : decode cX6_would 5 = .ok (.iload_n 1, 1) := by decide +kernel
theorem dX6_would_6 : decode cX6_would 6 = .ok (.iload_n 2, 1) := by decide +kernel
theorem dX6_would_7 : decode cX6_would 7 = .ok (.invokestatic 94, 3) := by decide +kernel
theorem dX6_would_10 : decode cX6_would 10 = .ok (.ifCond .ne 5, 3) := by decide +kernel
theorem dX6_would_13 : decode cX6_would 13 = .ok (.iconst (-1), 1) := by decide +kernel
theorem dX6_would_14 : decode cX6_would 14 = .ok (.ireturn, 1) := by decide +kernel
theorem dX6_would_15 : decode cX6_would 15 = .ok (.iload_n 3, 1) := by decide +kernel
theorem dX6_would_16 : decode cX6_would 16 = .ok (.iconst 0, 1) := by decide +kernel
theorem dX6_would_17 : decode cX6_would 17 = .ok (.iconst 2, 1) := by decide +kernel
theorem dX6_would_18 : decode cX6_would 18 = .ok (.invokestatic 35, 3) := by decide +kernel
theorem dX6_would_21 : decode cX6_would 21 = .ok (.ifCond .ne 6, 3) := by decide +kernel
theorem dX6_would_24 : decode cX6_would 24 = .ok (.bipush (-2), 2) := by decide +kernel
theorem dX6_would_26 : decode cX6_would 26 = .ok (.ireturn, 1) := by decide +kernel
theorem dX6_would_27 : decode cX6_would 27 = .ok (.aload_n 0, 1) := by decide +kernel
theorem dX6_would_28 : decode cX6_would 28 = .ok (.iload_n 1, 1) := by decide +kernel
theorem dX6_would_29 : decode cX6_would 29 = .ok (.iload_n 2, 1) := by decide +kernel
theorem dX6_would_30 : decode cX6_would 30 = .ok (.invokevirtual 97, 3) := by decide +kernel
theorem dX6_would_33 : decode cX6_would 33 = .ok (.istore 4, 2) := by decide +kernel
theorem dX6_would_35 : decode cX6_would 35 = .ok (.iload 4, 2) := by decide +kernel
theorem dX6_would_37 : decode cX6_would 37 = .ok (.ifCond .eq 6, 3) := by decide +kernel
theorem dX6_would_40 : decode cX6_would 40 = .ok (.iload 4, 2) := by decide +kernel
theorem dX6_would_42 : decode cX6_would 42 = .ok (.ireturn, 1) := by decide +kernel
theorem dX6_would_43 : decode cX6_would 43 = .ok (.aload_n 0, 1) := by decide +kernel
theorem dX6_would_44 : decode cX6_would 44 = .ok (.aload_n 0, 1) := by decide +kernel
theorem dX6_would_45 : decode cX6_would 45 = .ok (.iload_n 1, 1) := by decide +kernel
theorem dX6_would_46 : decode cX6_would 46 = .ok (.iload_n 2, 1) := by decide +kernel
theorem dX6_would_47 : decode cX6_would 47 = .ok (.invokevirtual 83, 3) := by decide +kernel
theorem dX6_would_50 : decode cX6_would 50 = .ok (.iconst 3, 1) := by decide +kernel
theorem dX6_would_51 : decode cX6_would 51 = .ok (.invokevirtual 46, 3) := by decide +kernel
theorem dX6_would_54 : decode cX6_would 54 = .ok (.istore 5, 2) := by decide +kernel
theorem dX6_would_56 : decode cX6_would 56 = .ok (.iload_n 3, 1) := by decide +kernel
theorem dX6_would_57 : decode cX6_would 57 = .ok (.iconst 2, 1) := by decide +kernel
theorem dX6_would_58 : decode cX6_would 58 = .ok (.if_icmp .ne 18, 3) := by decide +kernel
theorem dX6_would_61 : decode cX6_would 61 = .ok (.iload 5, 2) := by decide +kernel
theorem dX6_would_63 : decode cX6_would 63 = .ok (.ifCond .ne 8, 3) := by decide +kernel
theorem dX6_would_66 : decode cX6_would 66 = .ok (.bipush (-5), 2) := by decide +kernel
theorem dX6_would_68 : decode cX6_would 68 = .ok (.goto 7, 3) := by decide +kernel
theorem dX6_would_71 : decode cX6_would 71 = .ok (.iload 5, 2) := by decide +kernel
theorem dX6_would_73 : decode cX6_would 73 = .ok (.iconst 1, 1) := by decide +kernel
theorem dX6_would_74 : decode cX6_would 74 = .ok (.isub, 1) := by decide +kernel
theorem dX6_would_75 : decode cX6_would 75 = .ok (.ireturn, 1) := by decide +kernel
theorem dX6_would_76 : decode cX6_would 76 = .ok (.aload_n 0, 1) := by decide +kernel
theorem dX6_would_77 : decode cX6_would 77 = .ok (.invokevirtual 110, 3) := by decide +kernel
theorem dX6_would_80 : decode cX6_would 80 = .ok (.aload_n 0, 1) := by decide +kernel
theorem dX6_would_81 : decode cX6_would 81 = .ok (.iload_n 1, 1) := by decide +kernel
theorem dX6_would_82 : decode cX6_would 82 = .ok (.iload_n 2, 1) := by decide +kernel
theorem dX6_would_83 : decode cX6_would 83 = .ok (.invokevirtual 103, 3) := by decide +kernel
theorem dX6_would_86 : decode cX6_would 86 = .ok (.istore 6, 2) := by decide +kernel
theorem dX6_would_88 : decode cX6_would 88 = .ok (.iload_n 3, 1) := by decide +kernel
theorem dX6_would_89 : decode cX6_would 89 = .ok (.ifCond .ne 17, 3) := by decide +kernel
theorem dX6_would_92 : decode cX6_would 92 = .ok (.aload_n 0, 1) := by decide +kernel
theorem dX6_would_93 : decode cX6_would 93 = .ok (.aload_n 0, 1) := by decide +kernel
theorem dX6_would_94 : decode cX6_would 94 = .ok (.iload_n 1, 1) := by decide +kernel
theorem dX6_would_95 : decode cX6_would 95 = .ok (.iload_n 2, 1) := by decide +kernel
theorem dX6_would_96 : decode cX6_would 96 = .ok (.invokevirtual 83, 3) := by decide +kernel
theorem dX6_would_99 : decode cX6_would 99 = .ok (.iconst 0, 1) := by decide +kernel
theorem dX6_would_100 : decode cX6_would 100 = .ok (.invokevirtual 46, 3) := by decide +kernel
theorem dX6_would_103 : decode cX6_would 103 = .ok (.goto 9, 3) := by decide +kernel
theorem dX6_would_106 : decode cX6_would 106 = .ok (.aload_n 0, 1) := by decide +kernel
theorem dX6_would_107 : decode cX6_would 107 = .ok (.iload 6, 2) := by decide +kernel
theorem dX6_would_109 : decode cX6_would 109 = .ok (.invokevirtual 199, 3) := by decide +kernel
theorem dX6_would_112 : decode cX6_would 112 = .ok (.istore 7, 2) := by decide +kernel
theorem dX6_would_114 : decode cX6_would 114 = .ok (.aload_n 0, 1) := by decide +kernel
theorem dX6_would_115 : decode cX6_would 115 = .ok (.invokevirtual 116, 3) := by decide +kernel
theorem dX6_would_118 : decode cX6_would 118 = .ok (.iload 7, 2) := by decide +kernel
theorem dX6_would_120 : decode cX6_would 120 = .ok (.ireturn, 1) := by decide +kernel
set_option maxRecDepth 20000 in
theorem ggX6_loudest_X6_isHere : GoodIn wsX6_loudest wsX6_isHere := goodIn_r _ [6, 7, 8, 5, 9, 10, 11, 12, 13, 14, 57, 58, 59, 60, 61, 62, 63, 64, 65, 66, 67, 68, 69, 70] (by decide +kernel) (by decide +kernel)
set_option maxRecDepth 20000 in
theorem gX6_loudest_X6_isHere : GoodIn wsX6_loudest (wsV RX6 122 RX6 yX6_isHere wsX6_isHere) := goodIn_app (goodIn_of _ (by decide +kernel)) ggX6_loudest_X6_isHere
set_option maxRecDepth 20000 in
theorem ggX6_loudest_X6_loudness : GoodIn wsX6_loudest wsX6_loudness := goodIn_r _ [18, 14, 19, 20, 21, 5, 22, 23, 24, 25, 26, 27, 28, 29, 30, 31, 32, 33, 34, 35, 36, 37, 38, 39, 40, 41, 42, 43, 44, 45, 7, 8, 9, 46, 47, 48, 49, 50, 51, 52, 53, 54, 55, 56, 57, 58, 59, 60, 61, 62, 63, 64, 65, 66, 67, 68, 69, 70] (by decide +kernel) (by decide +kernel)
set_option maxRecDepth 20000 in
theorem gX6_loudest_X6_loudness : GoodIn wsX6_loudest (wsV RX6 205 RX6 yX6_loudness wsX6_loudness) := goodIn_app (goodIn_of _ (by decide +kernel)) ggX6_loudest_X6_loudness
theorem dX6_loudest_0 : decode cX6_loudest 0 = .ok (.aload_n 0, 1) := by decide +kernel
theorem dX6_loudest_1 : decode cX6_loudest 1 = .ok (.iconst 0, 1) := by decide +kernel
theorem dX6_loudest_2 : decode cX6_loudest 2 = .ok (.putfield 31, 3) := by decide +kernel
theorem dX6_loudest_5 : decode cX6_loudest 5 = .ok (.bipush (-5), 2) := by decide +kernel
theorem dX6_loudest_7 : decode cX6_loudest 7 = .ok (.istore_n 1, 1) := by decide +kernel
theorem dX6_loudest_8 : decode cX6_loudest 8 = .ok (.fconst 0, 1) := by decide +kernel
theorem dX6_loudest_9 : decode cX6_loudest 9 = .ok (.fstore_n 2, 1) := by decide +kernel
theorem dX6_loudest_10 : decode cX6_loudest 10 = .ok (.iconst 0, 1) := by decide +kernel
theorem dX6_loudest_11 : decode cX6_loudest 11 = .ok (.istore_n 3, 1) := by decide +kernel
theorem dX6_loudest_12 : decode cX6_loudest 12 = .ok (.iload_n 3, 1) := by decide +kernel
theorem dX6_loudest_13 : decode cX6_loudest 13 = .ok (.bipush 16, 2) := by decide +kernel
theorem dX6_loudest_15 : decode cX6_loudest 15 = .ok (.if_icmp .ge 67, 3) := by decide +kernel
theorem dX6_loudest_18 : decode cX6_loudest 18 = .ok (.aload_n 0, 1) := by decide +kernel
theorem dX6_loudest_19 : decode cX6_loudest 19 = .ok (.iload_n 3, 1) := by decide +kernel
theorem dX6_loudest_20 : decode cX6_loudest 20 = .ok (.invokevirtual 122, 3) := by decide +kernel
theorem dX6_loudest_23 : decode cX6_loudest 23 = .ok (.ifCond .eq 53, 3) := by decide +kernel
theorem dX6_loudest_26 : decode cX6_loudest 26 = .ok (.aload_n 0, 1) := by decide +kernel
theorem dX6_loudest_27 : decode cX6_loudest 27 = .ok (.iload_n 3, 1) := by decide +kernel
theorem dX6_loudest_28 : decode cX6_loudest 28 = .ok (.invokevirtual 205, 3) := by decide +kernel
theorem dX6_loudest_31 : decode cX6_loudest 31 = .ok (.fstore 4, 2) := by decide +kernel
theorem dX6_loudest_33 : decode cX6_loudest 33 = .ok (.iload_n 1, 1) := by decide +kernel
theorem dX6_loudest_34 : decode cX6_loudest 34 = .ok (.bipush (-5), 2) := by decide +kernel
theorem dX6_loudest_36 : decode cX6_loudest 36 = .ok (.if_icmp .eq 10, 3) := by decide +kernel
theorem dX6_loudest_39 : decode cX6_loudest 39 = .ok (.fload 4, 2) := by decide +kernel
theorem dX6_loudest_41 : decode cX6_loudest 41 = .ok (.fload_n 2, 1) := by decide +kernel
theorem dX6_loudest_42 : decode cX6_loudest 42 = .ok (.fcmp .l, 1) := by decide +kernel
theorem dX6_loudest_43 : decode cX6_loudest 43 = .ok (.ifCond .le 7, 3) := by decide +kernel
theorem dX6_loudest_46 : decode cX6_loudest 46 = .ok (.iconst 1, 1) := by decide +kernel
theorem dX6_loudest_47 : decode cX6_loudest 47 = .ok (.goto 4, 3) := by decide +kernel
theorem dX6_loudest_50 : decode cX6_loudest 50 = .ok (.iconst 0, 1) := by decide +kernel
theorem dX6_loudest_51 : decode cX6_loudest 51 = .ok (.istore 5, 2) := by decide +kernel
theorem dX6_loudest_53 : decode cX6_loudest 53 = .ok (.iload 5, 2) := by decide +kernel
theorem dX6_loudest_55 : decode cX6_loudest 55 = .ok (.ifCond .eq 7, 3) := by decide +kernel
theorem dX6_loudest_58 : decode cX6_loudest 58 = .ok (.iload_n 3, 1) := by decide +kernel
theorem dX6_loudest_59 : decode cX6_loudest 59 = .ok (.goto 4, 3) := by decide +kernel
theorem dX6_loudest_62 : decode cX6_loudest 62 = .ok (.iload_n 1, 1) := by decide +kernel
theorem dX6_loudest_63 : decode cX6_loudest 63 = .ok (.istore_n 1, 1) := by decide +kernel
theorem dX6_loudest_64 : decode cX6_loudest 64 = .ok (.iload 5, 2) := by decide +kernel
theorem dX6_loudest_66 : decode cX6_loudest 66 = .ok (.ifCond .eq 8, 3) := by decide +kernel
theorem dX6_loudest_69 : decode cX6_loudest 69 = .ok (.fload 4, 2) := by decide +kernel
theorem dX6_loudest_71 : decode cX6_loudest 71 = .ok (.goto 4, 3) := by decide +kernel
theorem dX6_loudest_74 : decode cX6_loudest 74 = .ok (.fload_n 2, 1) := by decide +kernel
theorem dX6_loudest_75 : decode cX6_loudest 75 = .ok (.fstore_n 2, 1) := by decide +kernel
theorem dX6_loudest_76 : decode cX6_loudest 76 = .ok (.iinc 3 1, 3) := by decide +kernel
theorem dX6_loudest_79 : decode cX6_loudest 79 = .ok (.goto (-67), 3) := by decide +kernel
theorem dX6_loudest_82 : decode cX6_loudest 82 = .ok (.iload_n 1, 1) := by decide +kernel
theorem dX6_loudest_83 : decode cX6_loudest 83 = .ok (.ireturn, 1) := by decide +kernel
set_option maxRecDepth 20000 in
theorem ggX6_share_X6_isHere : GoodIn wsX6_share wsX6_isHere := goodIn_r _ [8, 9, 10, 7, 11, 12, 13, 14, 15, 16, 35, 36, 37, 38, 39, 40, 41, 42, 43, 44, 45, 46, 47, 48] (by decide +kernel) (by decide +kernel)
set_option maxRecDepth 20000 in
theorem gX6_share_X6_isHere : GoodIn wsX6_share (wsV RX6 122 RX6 yX6_isHere wsX6_isHere) := goodIn_app (goodIn_of _ (by decide +kernel)) ggX6_share_X6_isHere
set_option maxRecDepth 20000 in
theorem ggX6_share_X6_areaOf : GoodIn wsX6_share wsX6_areaOf := goodIn_r _ [20, 16, 21, 22, 23, 7, 24, 25, 26, 27, 28, 29, 30, 31, 32, 33, 34, 35, 36, 37, 38, 39, 40, 41, 42, 43, 44, 45, 46, 47, 48] (by decide +kernel) (by decide +kernel)
set_option maxRecDepth 20000 in
theorem gX6_share_X6_areaOf : GoodIn wsX6_share (wsV RX6 129 RX6 yX6_areaOf wsX6_areaOf) := goodIn_app (goodIn_of _ (by decide +kernel)) ggX6_share_X6_areaOf
theorem dX6_share_0 : decode cX6_share 0 = .ok (.aload_n 0, 1) := by decide +kernel
theorem dX6_share_1 : decode cX6_share 1 = .ok (.iconst 0, 1) := by decide +kernel
theorem dX6_share_2 : decode cX6_share 2 = .ok (.putfield 31, 3) := by decide +kernel
theorem dX6_share_5 : decode cX6_share 5 = .ok (.aload_n 0, 1) := by decide +kernel
theorem dX6_share_6 : decode cX6_share 6 = .ok (.iload_n 1, 1) := by decide +kernel
theorem dX6_share_7 : decode cX6_share 7 = .ok (.invokevirtual 122, 3) := by decide +kernel
theorem dX6_share_10 : decode cX6_share 10 = .ok (.ifCond .eq 15, 3) := by decide +kernel
theorem dX6_share_13 : decode cX6_share 13 = .ok (.aload_n 0, 1) := by decide +kernel
theorem dX6_share_14 : decode cX6_share 14 = .ok (.iload_n 1, 1) := by decide +kernel
theorem dX6_share_15 : decode cX6_share 15 = .ok (.invokevirtual 129, 3) := by decide +kernel
theorem dX6_share_18 : decode cX6_share 18 = .ok (.i2f, 1) := by decide +kernel
theorem dX6_share_19 : decode cX6_share 19 = .ok (.ldc 232, 2) := by decide +kernel
theorem dX6_share_21 : decode cX6_share 21 = .ok (.fdiv, 1) := by decide +kernel
theorem dX6_share_22 : decode cX6_share 22 = .ok (.goto 5, 3) := by decide +kernel
theorem dX6_share_25 : decode cX6_share 25 = .ok (.ldc 233, 2) := by decide +kernel
theorem dX6_share_27 : decode cX6_share 27 = .ok (.freturn, 1) := by decide +kernel
set_option maxRecDepth 20000 in
theorem ggX6_depthOf_X6_ofPlot : GoodIn wsX6_depthOf wsX6_ofPlot := goodIn_r _ [6, 1, 7, 8, 9, 10, 11, 12, 13, 14, 15, 16, 17, 18, 19, 20] (by decide +kernel) (by decide +kernel)
set_option maxRecDepth 20000 in
theorem gX6_depthOf_X6_ofPlot : GoodIn wsX6_depthOf (wsV RX6 46 RX6 yX6_ofPlot wsX6_ofPlot) := goodIn_app (goodIn_of _ (by decide +kernel)) ggX6_depthOf_X6_ofPlot
theorem dX6_depthOf_0 : decode cX6_depthOf 0 = .ok (.aload_n 0, 1) := by decide +kernel
theorem dX6_depthOf_1 : decode cX6_depthOf 1 = .ok (.iconst 0, 1) := by decide +kernel
theorem dX6_depthOf_2 : decode cX6_depthOf 2 = .ok (.iconst 0, 1) := by decide +kernel
theorem dX6_depthOf_3 : decode cX6_depthOf 3 = .ok (.invokevirtual 46, 3) := by decide +kernel
theorem dX6_depthOf_6 : decode cX6_depthOf 6 = .ok (.istore_n 2, 1) := by decide +kernel
theorem dX6_depthOf_7 : decode cX6_depthOf 7 = .ok (.iconst 1, 1) := by decide +kernel
theorem dX6_depthOf_8 : decode cX6_depthOf 8 = .ok (.istore_n 3, 1) := by decide +kernel
theorem dX6_depthOf_9 : decode cX6_depthOf 9 = .ok (.iload_n 3, 1) := by decide +kernel
theorem dX6_depthOf_10 : decode cX6_depthOf 10 = .ok (.aload_n 0, 1) := by decide +kernel
theorem dX6_depthOf_11 : decode cX6_depthOf 11 = .ok (.getfield 7, 3) := by decide +kernel
theorem dX6_depthOf_14 : decode cX6_depthOf 14 = .ok (.iconst 1, 1) := by decide +kernel
theorem dX6_depthOf_15 : decode cX6_depthOf 15 = .ok (.iaload, 1) := by decide +kernel
theorem dX6_depthOf_16 : decode cX6_depthOf 16 = .ok (.if_icmp .ge 44, 3) := by decide +kernel
theorem dX6_depthOf_19 : decode cX6_depthOf 19 = .ok (.aload_n 0, 1) := by decide +kernel
theorem dX6_depthOf_20 : decode cX6_depthOf 20 = .ok (.iload_n 3, 1) := by decide +kernel
theorem dX6_depthOf_21 : decode cX6_depthOf 21 = .ok (.iconst 0, 1) := by decide +kernel
theorem dX6_depthOf_22 : decode cX6_depthOf 22 = .ok (.invokevirtual 46, 3) := by decide +kernel
theorem dX6_depthOf_25 : decode cX6_depthOf 25 = .ok (.istore 4, 2) := by decide +kernel
theorem dX6_depthOf_27 : decode cX6_depthOf 27 = .ok (.iload_n 1, 1) := by decide +kernel
theorem dX6_depthOf_28 : decode cX6_depthOf 28 = .ok (.ifCond .eq 9, 3) := by decide +kernel
theorem dX6_depthOf_31 : decode cX6_depthOf 31 = .ok (.iload 4, 2) := by decide +kernel
theorem dX6_depthOf_33 : decode cX6_depthOf 33 = .ok (.iload_n 2, 1) := by decide +kernel
theorem dX6_depthOf_34 : decode cX6_depthOf 34 = .ok (.if_icmp .gt 13, 3) := by decide +kernel
theorem dX6_depthOf_37 : decode cX6_depthOf 37 = .ok (.iload_n 1, 1) := by decide +kernel
theorem dX6_depthOf_38 : decode cX6_depthOf 38 = .ok (.ifCond .ne 14, 3) := by decide +kernel
theorem dX6_depthOf_41 : decode cX6_depthOf 41 = .ok (.iload 4, 2) := by decide +kernel
theorem dX6_depthOf_43 : decode cX6_depthOf 43 = .ok (.iload_n 2, 1) := by decide +kernel
theorem dX6_depthOf_44 : decode cX6_depthOf 44 = .ok (.if_icmp .ge 8, 3) := by decide +kernel
theorem dX6_depthOf_47 : decode cX6_depthOf 47 = .ok (.iload 4, 2) := by decide +kernel
theorem dX6_depthOf_49 : decode cX6_depthOf 49 = .ok (.goto 4, 3) := by decide +kernel
theorem dX6_depthOf_52 : decode cX6_depthOf 52 = .ok (.iload_n 2, 1) := by decide +kernel
theorem dX6_depthOf_53 : decode cX6_depthOf 53 = .ok (.istore_n 2, 1) := by decide +kernel
theorem dX6_depthOf_54 : decode cX6_depthOf 54 = .ok (.iinc 3 1, 3) := by decide +kernel
theorem dX6_depthOf_57 : decode cX6_depthOf 57 = .ok (.goto (-48), 3) := by decide +kernel
theorem dX6_depthOf_60 : decode cX6_depthOf 60 = .ok (.iload_n 2, 1) := by decide +kernel
theorem dX6_depthOf_61 : decode cX6_depthOf 61 = .ok (.ireturn, 1) := by decide +kernel
set_option maxRecDepth 20000 in
theorem ggX6_withMore_X6_isHere : GoodIn wsX6_withMore wsX6_isHere := goodIn_r _ [5, 6, 7, 4, 8, 9, 10, 11, 12, 13, 22, 23, 24, 25, 26, 27, 28, 29, 30, 31, 32, 33, 34, 35] (by decide +kernel) (by decide +kernel)
set_option maxRecDepth 20000 in
theorem gX6_withMore_X6_isHere : GoodIn wsX6_withMore (wsV RX6 122 RX6 yX6_isHere wsX6_isHere) := goodIn_app (goodIn_of _ (by decide +kernel)) ggX6_withMore_X6_isHere
set_option maxRecDepth 20000 in
theorem ggX6_withMore_X6_plotsOf : GoodIn wsX6_withMore wsX6_plotsOf := goodIn_r _ [17, 13, 18, 19, 20, 4, 21, 22, 23, 24, 25, 26, 27, 28, 29, 30, 31, 32, 33, 34, 35] (by decide +kernel) (by decide +kernel)
set_option maxRecDepth 20000 in
theorem gX6_withMore_X6_plotsOf : GoodIn wsX6_withMore (wsV RX6 196 RX6 yX6_plotsOf wsX6_plotsOf) := goodIn_app (goodIn_of _ (by decide +kernel)) ggX6_withMore_X6_plotsOf
theorem dX6_withMore_0 : decode cX6_withMore 0 = .ok (.iconst 0, 1) := by decide +kernel
theorem dX6_withMore_1 : decode cX6_withMore 1 = .ok (.istore_n 1, 1) := by decide +kernel
theorem dX6_withMore_2 : decode cX6_withMore 2 = .ok (.iconst 0, 1) := by decide +kernel
theorem dX6_withMore_3 : decode cX6_withMore 3 = .ok (.istore_n 2, 1) := by decide +kernel
theorem dX6_withMore_4 : decode cX6_withMore 4 = .ok (.iload_n 2, 1) := by decide +kernel
theorem dX6_withMore_5 : decode cX6_withMore 5 = .ok (.bipush 16, 2) := by decide +kernel
theorem dX6_withMore_7 : decode cX6_withMore 7 = .ok (.if_icmp .ge 34, 3) := by decide +kernel
theorem dX6_withMore_10 : decode cX6_withMore 10 = .ok (.iload_n 1, 1) := by decide +kernel
theorem dX6_withMore_11 : decode cX6_withMore 11 = .ok (.aload_n 0, 1) := by decide +kernel
theorem dX6_withMore_12 : decode cX6_withMore 12 = .ok (.iload_n 2, 1) := by decide +kernel
theorem dX6_withMore_13 : decode cX6_withMore 13 = .ok (.invokevirtual 122, 3) := by decide +kernel
theorem dX6_withMore_16 : decode cX6_withMore 16 = .ok (.ifCond .eq 16, 3) := by decide +kernel
theorem dX6_withMore_19 : decode cX6_withMore 19 = .ok (.aload_n 0, 1) := by decide +kernel
theorem dX6_withMore_20 : decode cX6_withMore 20 = .ok (.iload_n 2, 1) := by decide +kernel
theorem dX6_withMore_21 : decode cX6_withMore 21 = .ok (.invokevirtual 196, 3) := by decide +kernel
theorem dX6_withMore_24 : decode cX6_withMore 24 = .ok (.iconst 1, 1) := by decide +kernel
theorem dX6_withMore_25 : decode cX6_withMore 25 = .ok (.if_icmp .le 7, 3) := by decide +kernel
theorem dX6_withMore_28 : decode cX6_withMore 28 = .ok (.iconst 1, 1) := by decide +kernel
theorem dX6_withMore_29 : decode cX6_withMore 29 = .ok (.goto 4, 3) := by decide +kernel
theorem dX6_withMore_32 : decode cX6_withMore 32 = .ok (.iconst 0, 1) := by decide +kernel
theorem dX6_withMore_33 : decode cX6_withMore 33 = .ok (.iadd, 1) := by decide +kernel
theorem dX6_withMore_34 : decode cX6_withMore 34 = .ok (.istore_n 1, 1) := by decide +kernel
theorem dX6_withMore_35 : decode cX6_withMore 35 = .ok (.iinc 2 1, 3) := by decide +kernel
theorem dX6_withMore_38 : decode cX6_withMore 38 = .ok (.goto (-34), 3) := by decide +kernel
theorem dX6_withMore_41 : decode cX6_withMore 41 = .ok (.iload_n 1, 1) := by decide +kernel
theorem dX6_withMore_42 : decode cX6_withMore 42 = .ok (.ireturn, 1) := by decide +kernel
set_option maxRecDepth 20000 in
theorem ggX6_count_X6_onField : GoodIn wsX6_count wsX6_onField := goodIn_r _ [9, 10, 11, 12, 8, 13, 2, 37, 38, 39, 40, 41, 42, 43, 44, 45, 46, 47, 48, 49, 50] (by decide +kernel) (by decide +kernel)
set_option maxRecDepth 20000 in
theorem gX6_count_X6_onField : GoodIn wsX6_count (wsV RX6 141 RX6 yX6_onField wsX6_onField) := goodIn_app (goodIn_of _ (by decide +kernel)) ggX6_count_X6_onField
set_option maxRecDepth 20000 in
theorem ggX6_count_X6_depthOf : GoodIn wsX6_count wsX6_depthOf := goodIn_r _ [17, 2, 18, 19, 20, 8, 21, 37, 38, 39, 40, 41, 42, 43, 44, 45, 46, 47, 48, 49, 50] (by decide +kernel) (by decide +kernel)
set_option maxRecDepth 20000 in
theorem gX6_count_X6_depthOf : GoodIn wsX6_count (wsV RX6 234 RX6 yX6_depthOf wsX6_depthOf) := goodIn_app (goodIn_of _ (by decide +kernel)) ggX6_count_X6_depthOf
set_option maxRecDepth 20000 in
theorem ggX6_count_X6_withMore : GoodIn wsX6_count wsX6_withMore := goodIn_r _ [25, 26, 27, 28, 8, 29, 30, 31, 32, 10, 11, 12, 13, 2, 33, 34, 35, 36, 18, 19, 20, 21, 37, 38, 39, 40, 41, 42, 43, 44, 45, 46, 47, 48, 49, 50] (by decide +kernel) (by decide +kernel)
set_option maxRecDepth 20000 in
theorem gX6_count_X6_withMore : GoodIn wsX6_count (wsV RX6 238 RX6 yX6_withMore wsX6_withMore) := goodIn_app (goodIn_of _ (by decide +kernel)) ggX6_count_X6_withMore
theorem dX6_count_0 : decode cX6_count 0 = .ok (.aload_n 0, 1) := by decide +kernel
theorem dX6_count_1 : decode cX6_count 1 = .ok (.iconst 0, 1) := by decide +kernel
theorem dX6_count_2 : decode cX6_count 2 = .ok (.putfield 31, 3) := by decide +kernel
theorem dX6_count_5 : decode cX6_count 5 = .ok (.iload_n 1, 1) := by decide +kernel
theorem dX6_count_6 : decode cX6_count 6 = .ok (.tableswitch 130 0 11 #[62, 67, 74, 81, 88, 88, 103, 108, 108, 108, 120, 125], 62) := by decide +kernel
theorem dX6_count_68 : decode cX6_count 68 = .ok (.aload_n 0, 1) := by decide +kernel
theorem dX6_count_69 : decode cX6_count 69 = .ok (.invokevirtual 141, 3) := by decide +kernel
theorem dX6_count_72 : decode cX6_count 72 = .ok (.ireturn, 1) := by decide +kernel
theorem dX6_count_73 : decode cX6_count 73 = .ok (.aload_n 0, 1) := by decide +kernel
theorem dX6_count_74 : decode cX6_count 74 = .ok (.getfield 7, 3) := by decide +kernel
theorem dX6_count_77 : decode cX6_count 77 = .ok (.iconst 0, 1) := by decide +kernel
theorem dX6_count_78 : decode cX6_count 78 = .ok (.iaload, 1) := by decide +kernel
theorem dX6_count_79 : decode cX6_count 79 = .ok (.ireturn, 1) := by decide +kernel
theorem dX6_count_80 : decode cX6_count 80 = .ok (.aload_n 0, 1) := by decide +kernel
theorem dX6_count_81 : decode cX6_count 81 = .ok (.getfield 7, 3) := by decide +kernel
theorem dX6_count_84 : decode cX6_count 84 = .ok (.iconst 1, 1) := by decide +kernel
theorem dX6_count_85 : decode cX6_count 85 = .ok (.iaload, 1) := by decide +kernel
theorem dX6_count_86 : decode cX6_count 86 = .ok (.ireturn, 1) := by decide +kernel
theorem dX6_count_87 : decode cX6_count 87 = .ok (.aload_n 0, 1) := by decide +kernel
theorem dX6_count_88 : decode cX6_count 88 = .ok (.getfield 7, 3) := by decide +kernel
theorem dX6_count_91 : decode cX6_count 91 = .ok (.iconst 2, 1) := by decide +kernel
theorem dX6_count_92 : decode cX6_count 92 = .ok (.iaload, 1) := by decide +kernel
theorem dX6_count_93 : decode cX6_count 93 = .ok (.ireturn, 1) := by decide +kernel
theorem dX6_count_94 : decode cX6_count 94 = .ok (.aload_n 0, 1) := by decide +kernel
theorem dX6_count_95 : decode cX6_count 95 = .ok (.iload_n 1, 1) := by decide +kernel
theorem dX6_count_96 : decode cX6_count 96 = .ok (.iconst 4, 1) := by decide +kernel
theorem dX6_count_97 : decode cX6_count 97 = .ok (.if_icmp .ne 7, 3) := by decide +kernel
theorem dX6_count_100 : decode cX6_count 100 = .ok (.iconst 1, 1) := by decide +kernel
theorem dX6_count_101 : decode cX6_count 101 = .ok (.goto 4, 3) := by decide +kernel
theorem dX6_count_104 : decode cX6_count 104 = .ok (.iconst 0, 1) := by decide +kernel
theorem dX6_count_105 : decode cX6_count 105 = .ok (.invokevirtual 234, 3) := by decide +kernel
theorem dX6_count_108 : decode cX6_count 108 = .ok (.ireturn, 1) := by decide +kernel
theorem dX6_count_109 : decode cX6_count 109 = .ok (.aload_n 0, 1) := by decide +kernel
theorem dX6_count_110 : decode cX6_count 110 = .ok (.invokevirtual 238, 3) := by decide +kernel
theorem dX6_count_113 : decode cX6_count 113 = .ok (.ireturn, 1) := by decide +kernel
theorem dX6_count_114 : decode cX6_count 114 = .ok (.aload_n 0, 1) := by decide +kernel
theorem dX6_count_115 : decode cX6_count 115 = .ok (.getfield 7, 3) := by decide +kernel
theorem dX6_count_118 : decode cX6_count 118 = .ok (.iconst 3, 1) := by decide +kernel
theorem dX6_count_119 : decode cX6_count 119 = .ok (.iload_n 1, 1) := by decide +kernel
theorem dX6_count_120 : decode cX6_count 120 = .ok (.iadd, 1) := by decide +kernel
theorem dX6_count_121 : decode cX6_count 121 = .ok (.bipush 7, 2) := by decide +kernel
theorem dX6_count_123 : decode cX6_count 123 = .ok (.isub, 1) := by decide +kernel
theorem dX6_count_124 : decode cX6_count 124 = .ok (.iaload, 1) := by decide +kernel
theorem dX6_count_125 : decode cX6_count 125 = .ok (.ireturn, 1) := by decide +kernel
theorem dX6_count_126 : decode cX6_count 126 = .ok (.aload_n 0, 1) := by decide +kernel
theorem dX6_count_127 : decode cX6_count 127 = .ok (.getfield 43, 3) := by decide +kernel
theorem dX6_count_130 : decode cX6_count 130 = .ok (.ireturn, 1) := by decide +kernel
theorem dX6_count_131 : decode cX6_count 131 = .ok (.aload_n 0, 1) := by decide +kernel
theorem dX6_count_132 : decode cX6_count 132 = .ok (.getfield 161, 3) := by decide +kernel
theorem dX6_count_135 : decode cX6_count 135 = .ok (.ireturn, 1) := by decide +kernel
theorem dX6_count_136 : decode cX6_count 136 = .ok (.bipush (-2), 2) := by decide +kernel
theorem dX6_count_138 : decode cX6_count 138 = .ok (.ireturn, 1) := by decide +kernel
theorem dJxf58ca_isNaN_12338_0 : decode cJxf58ca_isNaN_12338 0 = .ok (.fload_n 0, 1) := by decide +kernel
theorem dJxf58ca_isNaN_12338_1 : decode cJxf58ca_isNaN_12338 1 = .ok (.fload_n 0, 1) := by decide +kernel
theorem dJxf58ca_isNaN_12338_2 : decode cJxf58ca_isNaN_12338 2 = .ok (.fcmp .l, 1) := by decide +kernel
theorem dJxf58ca_isNaN_12338_3 : decode cJxf58ca_isNaN_12338 3 = .ok (.ifCond .eq 7, 3) := by decide +kernel
theorem dJxf58ca_isNaN_12338_6 : decode cJxf58ca_isNaN_12338 6 = .ok (.iconst 1, 1) := by decide +kernel
theorem dJxf58ca_isNaN_12338_7 : decode cJxf58ca_isNaN_12338 7 = .ok (.goto 4, 3) := by decide +kernel
theorem dJxf58ca_isNaN_12338_10 : decode cJxf58ca_isNaN_12338 10 = .ok (.iconst 0, 1) := by decide +kernel
theorem dJxf58ca_isNaN_12338_11 : decode cJxf58ca_isNaN_12338 11 = .ok (.ireturn, 1) := by decide +kernel
set_option maxRecDepth 20000 in
theorem ggJxf58ca_floatToIntBits_5c35a_Jxf58ca_isNaN_12338 : GoodIn wsJxf58ca_floatToIntBits_5c35a wsJxf58ca_isNaN_12338 := goodIn_r _ [9] (by decide +kernel) (by decide +kernel)
set_option maxRecDepth 20000 in
theorem gJxf58ca_floatToIntBits_5c35a_Jxf58ca_isNaN_12338 : GoodIn wsJxf58ca_floatToIntBits_5c35a (va_wsS RJxf58ca 59 yJxf58ca_isNaN_12338 wsJxf58ca_isNaN_12338) := goodIn_app (goodIn_of _ (by decide +kernel)) ggJxf58ca_floatToIntBits_5c35a_Jxf58ca_isNaN_12338
theorem dJxf58ca_floatToIntBits_5c35a_0 : decode cJxf58ca_floatToIntBits_5c35a 0 = .ok (.fload_n 0, 1) := by decide +kernel
theorem dJxf58ca_floatToIntBits_5c35a_1 : decode cJxf58ca_floatToIntBits_5c35a 1 = .ok (.invokestatic 59, 3) := by decide +kernel
theorem dJxf58ca_floatToIntBits_5c35a_4 : decode cJxf58ca_floatToIntBits_5c35a 4 = .ok (.ifCond .ne 8, 3) := by decide +kernel
theorem dJxf58ca_floatToIntBits_5c35a_7 : decode cJxf58ca_floatToIntBits_5c35a 7 = .ok (.fload_n 0, 1) := by decide +kernel
theorem dJxf58ca_floatToIntBits_5c35a_8 : decode cJxf58ca_floatToIntBits_5c35a 8 = .ok (.invokestatic 74, 3) := by decide +kernel
theorem dJxf58ca_floatToIntBits_5c35a_11 : decode cJxf58ca_floatToIntBits_5c35a 11 = .ok (.ireturn, 1) := by decide +kernel
theorem dJxf58ca_floatToIntBits_5c35a_12 : decode cJxf58ca_floatToIntBits_5c35a 12 = .ok (.ldc 77, 2) := by decide +kernel
theorem dJxf58ca_floatToIntBits_5c35a_14 : decode cJxf58ca_floatToIntBits_5c35a 14 = .ok (.ireturn, 1) := by decide +kernel
theorem dJ6_bitCount_0f7a4_0 : decode cJ6_bitCount_0f7a4 0 = .ok (.iload_n 0, 1) := by decide +kernel
theorem dJ6_bitCount_0f7a4_1 : decode cJ6_bitCount_0f7a4 1 = .ok (.iload_n 0, 1) := by decide +kernel
theorem dJ6_bitCount_0f7a4_2 : decode cJ6_bitCount_0f7a4 2 = .ok (.iconst 1, 1) := by decide +kernel
theorem dJ6_bitCount_0f7a4_3 : decode cJ6_bitCount_0f7a4 3 = .ok (.iushr, 1) := by decide +kernel
theorem dJ6_bitCount_0f7a4_4 : decode cJ6_bitCount_0f7a4 4 = .ok (.ldc_w 265, 3) := by decide +kernel
theorem dJ6_bitCount_0f7a4_7 : decode cJ6_bitCount_0f7a4 7 = .ok (.iand, 1) := by decide +kernel
theorem dJ6_bitCount_0f7a4_8 : decode cJ6_bitCount_0f7a4 8 = .ok (.isub, 1) := by decide +kernel
theorem dJ6_bitCount_0f7a4_9 : decode cJ6_bitCount_0f7a4 9 = .ok (.istore_n 0, 1) := by decide +kernel
theorem dJ6_bitCount_0f7a4_10 : decode cJ6_bitCount_0f7a4 10 = .ok (.iload_n 0, 1) := by decide +kernel
theorem dJ6_bitCount_0f7a4_11 : decode cJ6_bitCount_0f7a4 11 = .ok (.ldc_w 266, 3) := by decide +kernel
theorem dJ6_bitCount_0f7a4_14 : decode cJ6_bitCount_0f7a4 14 = .ok (.iand, 1) := by decide +kernel
theorem dJ6_bitCount_0f7a4_15 : decode cJ6_bitCount_0f7a4 15 = .ok (.iload_n 0, 1) := by decide +kernel
theorem dJ6_bitCount_0f7a4_16 : decode cJ6_bitCount_0f7a4 16 = .ok (.iconst 2, 1) := by decide +kernel
theorem dJ6_bitCount_0f7a4_17 : decode cJ6_bitCount_0f7a4 17 = .ok (.iushr, 1) := by decide +kernel
theorem dJ6_bitCount_0f7a4_18 : decode cJ6_bitCount_0f7a4 18 = .ok (.ldc_w 266, 3) := by decide +kernel
theorem dJ6_bitCount_0f7a4_21 : decode cJ6_bitCount_0f7a4 21 = .ok (.iand, 1) := by decide +kernel
theorem dJ6_bitCount_0f7a4_22 : decode cJ6_bitCount_0f7a4 22 = .ok (.iadd, 1) := by decide +kernel
theorem dJ6_bitCount_0f7a4_23 : decode cJ6_bitCount_0f7a4 23 = .ok (.istore_n 0, 1) := by decide +kernel
theorem dJ6_bitCount_0f7a4_24 : decode cJ6_bitCount_0f7a4 24 = .ok (.iload_n 0, 1) := by decide +kernel
theorem dJ6_bitCount_0f7a4_25 : decode cJ6_bitCount_0f7a4 25 = .ok (.iload_n 0, 1) := by decide +kernel
theorem dJ6_bitCount_0f7a4_26 : decode cJ6_bitCount_0f7a4 26 = .ok (.iconst 4, 1) := by decide +kernel
theorem dJ6_bitCount_0f7a4_27 : decode cJ6_bitCount_0f7a4 27 = .ok (.iushr, 1) := by decide +kernel
theorem dJ6_bitCount_0f7a4_28 : decode cJ6_bitCount_0f7a4 28 = .ok (.iadd, 1) := by decide +kernel
theorem dJ6_bitCount_0f7a4_29 : decode cJ6_bitCount_0f7a4 29 = .ok (.ldc_w 267, 3) := by decide +kernel
theorem dJ6_bitCount_0f7a4_32 : decode cJ6_bitCount_0f7a4 32 = .ok (.iand, 1) := by decide +kernel
theorem dJ6_bitCount_0f7a4_33 : decode cJ6_bitCount_0f7a4 33 = .ok (.istore_n 0, 1) := by decide +kernel
theorem dJ6_bitCount_0f7a4_34 : decode cJ6_bitCount_0f7a4 34 = .ok (.iload_n 0, 1) := by decide +kernel
theorem dJ6_bitCount_0f7a4_35 : decode cJ6_bitCount_0f7a4 35 = .ok (.iload_n 0, 1) := by decide +kernel
theorem dJ6_bitCount_0f7a4_36 : decode cJ6_bitCount_0f7a4 36 = .ok (.bipush 8, 2) := by decide +kernel
theorem dJ6_bitCount_0f7a4_38 : decode cJ6_bitCount_0f7a4 38 = .ok (.iushr, 1) := by decide +kernel
theorem dJ6_bitCount_0f7a4_39 : decode cJ6_bitCount_0f7a4 39 = .ok (.iadd, 1) := by decide +kernel
theorem dJ6_bitCount_0f7a4_40 : decode cJ6_bitCount_0f7a4 40 = .ok (.istore_n 0, 1) := by decide +kernel
theorem dJ6_bitCount_0f7a4_41 : decode cJ6_bitCount_0f7a4 41 = .ok (.iload_n 0, 1) := by decide +kernel
theorem dJ6_bitCount_0f7a4_42 : decode cJ6_bitCount_0f7a4 42 = .ok (.iload_n 0, 1) := by decide +kernel
theorem dJ6_bitCount_0f7a4_43 : decode cJ6_bitCount_0f7a4 43 = .ok (.bipush 16, 2) := by decide +kernel
theorem dJ6_bitCount_0f7a4_45 : decode cJ6_bitCount_0f7a4 45 = .ok (.iushr, 1) := by decide +kernel
theorem dJ6_bitCount_0f7a4_46 : decode cJ6_bitCount_0f7a4 46 = .ok (.iadd, 1) := by decide +kernel
theorem dJ6_bitCount_0f7a4_47 : decode cJ6_bitCount_0f7a4 47 = .ok (.istore_n 0, 1) := by decide +kernel
theorem dJ6_bitCount_0f7a4_48 : decode cJ6_bitCount_0f7a4 48 = .ok (.iload_n 0, 1) := by decide +kernel
theorem dJ6_bitCount_0f7a4_49 : decode cJ6_bitCount_0f7a4 49 = .ok (.bipush 63, 2) := by decide +kernel
theorem dJ6_bitCount_0f7a4_51 : decode cJ6_bitCount_0f7a4 51 = .ok (.iand, 1) := by decide +kernel
theorem dJ6_bitCount_0f7a4_52 : decode cJ6_bitCount_0f7a4 52 = .ok (.ireturn, 1) := by decide +kernel
theorem dJ9_max_7cf53_0 : decode cJ9_max_7cf53 0 = .ok (.iload_n 0, 1) := by decide +kernel
theorem dJ9_max_7cf53_1 : decode cJ9_max_7cf53 1 = .ok (.iload_n 1, 1) := by decide +kernel
theorem dJ9_max_7cf53_2 : decode cJ9_max_7cf53 2 = .ok (.if_icmp .lt 7, 3) := by decide +kernel
theorem dJ9_max_7cf53_5 : decode cJ9_max_7cf53 5 = .ok (.iload_n 0, 1) := by decide +kernel
theorem dJ9_max_7cf53_6 : decode cJ9_max_7cf53 6 = .ok (.goto 4, 3) := by decide +kernel
theorem dJ9_max_7cf53_9 : decode cJ9_max_7cf53 9 = .ok (.iload_n 1, 1) := by decide +kernel
theorem dJ9_max_7cf53_10 : decode cJ9_max_7cf53 10 = .ok (.ireturn, 1) := by decide +kernel
theorem dJ9_min_7cf53_0 : decode cJ9_min_7cf53 0 = .ok (.iload_n 0, 1) := by decide +kernel
theorem dJ9_min_7cf53_1 : decode cJ9_min_7cf53 1 = .ok (.iload_n 1, 1) := by decide +kernel
theorem dJ9_min_7cf53_2 : decode cJ9_min_7cf53 2 = .ok (.if_icmp .gt 7, 3) := by decide +kernel
theorem dJ9_min_7cf53_5 : decode cJ9_min_7cf53 5 = .ok (.iload_n 0, 1) := by decide +kernel
theorem dJ9_min_7cf53_6 : decode cJ9_min_7cf53 6 = .ok (.goto 4, 3) := by decide +kernel
theorem dJ9_min_7cf53_9 : decode cJ9_min_7cf53 9 = .ok (.iload_n 1, 1) := by decide +kernel
theorem dJ9_min_7cf53_10 : decode cJ9_min_7cf53 10 = .ok (.ireturn, 1) := by decide +kernel
set_option maxRecDepth 20000 in
theorem ggL_law_X5_init : GoodIn wsL_law wsX5_init := goodIn_r _ [8, 9, 10, 11, 12, 13, 14, 15, 16, 17, 18, 19, 20, 21, 22, 23, 24, 25, 26, 27, 28, 29, 30, 31, 32, 33, 34, 35, 36, 37, 38, 39, 40, 41, 42, 43, 44, 45, 46, 47, 48, 49, 50, 51, 52, 53, 54, 55, 56, 57, 58, 59, 60, 61, 62, 63, 64, 65, 66, 67, 68, 69, 70, 71, 72, 73, 74, 75, 76, 77, 867, 868, 869, 870, 871, 872, 873, 874, 875, 876, 877, 878, 847, 848, 849, 850, 851, 852, 879, 880, 881, 882, 883, 884, 885, 886, 887, 888, 889] (by decide +kernel) (by decide +kernel)
set_option maxRecDepth 20000 in
theorem gL_law_X5_init : GoodIn wsL_law (wsX5_init) := ggL_law_X5_init
set_option maxRecDepth 20000 in
theorem ggL_law_X6_init : GoodIn wsL_law wsX6_init := goodIn_r _ [80, 81, 10, 11, 58, 82, 83, 84, 85, 86, 87, 88, 89, 853, 854, 855, 856, 857, 858, 859, 860, 861, 862, 863, 864, 865, 866] (by decide +kernel) (by decide +kernel)
set_option maxRecDepth 20000 in
theorem gL_law_X6_init : GoodIn wsL_law (wsX6_init) := ggL_law_X6_init
set_option maxRecDepth 20000 in
theorem ggL_law_X5_come : GoodIn wsL_law wsX5_come := goodIn_r _ [93, 15, 21, 94, 95, 2, 96, 97, 98, 99, 14, 100, 101, 34, 38, 39, 102, 103, 104, 33, 105, 53, 106, 107, 108, 109, 49, 50, 51, 110, 111, 112, 37, 113, 59, 114, 115, 116, 117, 118, 119, 120, 121, 52, 122, 123, 124, 125, 126, 127, 128, 129, 130, 131, 132, 133, 40, 134, 135, 136, 137, 138, 139, 140, 141, 142, 143, 144, 145, 146, 147, 20, 148, 149, 150, 151, 152, 153, 154, 155, 156, 157, 158, 70, 159, 160, 161, 162, 163, 164, 165, 166, 41, 42, 43, 167, 168, 169, 170, 171, 172, 173, 174, 175, 176, 177, 178, 179, 180, 181, 182, 183, 184, 185, 186, 187, 188, 189, 190, 191, 192, 193, 194, 195, 60, 61, 62, 63, 196, 197, 198, 199, 200, 847, 848, 849, 850, 851, 852, 867, 868, 869, 870, 871, 872, 873, 874, 875, 876, 877, 878, 884, 885, 886, 887, 888, 889, 879, 880, 881] (by decide +kernel) (by decide +kernel)
set_option maxRecDepth 20000 in
theorem gL_law_X5_come : GoodIn wsL_law (wsV RL 13 RX5 yX5_come wsX5_come) := goodIn_app (goodIn_of _ (by decide +kernel)) ggL_law_X5_come
set_option maxRecDepth 20000 in
theorem ggL_law_X6_come : GoodIn wsL_law wsX6_come := goodIn_r _ [204, 89, 205, 206, 5, 207, 208, 209, 210, 211, 212, 213, 214, 82, 215, 216, 217, 218, 219, 220, 221, 222, 223, 224, 225, 226, 227, 228, 229, 230, 231, 232, 233, 234, 235, 236, 237, 238, 239, 240, 241, 242, 243, 244, 245, 246, 247, 248, 249, 84, 250, 251, 252, 253, 254, 255, 256, 257, 258, 259, 260, 261, 262, 263, 264, 265, 853, 854, 855, 856, 857, 858, 859, 860, 861, 862, 863, 864, 865, 866] (by decide +kernel) (by decide +kernel)
set_option maxRecDepth 20000 in
theorem gL_law_X6_come : GoodIn wsL_law (wsV RL 17 RX6 yX6_come wsX6_come) := goodIn_app (goodIn_of _ (by decide +kernel)) ggL_law_X6_come
set_option maxRecDepth 20000 in
theorem ggL_law_X5_comeAll : GoodIn wsL_law wsX5_comeAll := goodIn_r _ [269, 25, 16, 15, 21, 270, 271, 272, 24, 273, 274, 275, 276, 277, 278, 77, 279, 280, 281, 282, 283, 284, 285, 160, 161, 14, 162, 101, 163, 164, 165, 166, 34, 38, 39, 40, 41, 42, 43, 167, 168, 169, 33, 170, 53, 49, 50, 51, 52, 171, 172, 173, 37, 174, 59, 175, 286, 287, 288, 289, 290, 291, 292, 293, 97, 98, 99, 100, 102, 103, 104, 105, 106, 107, 108, 109, 110, 111, 112, 113, 114, 2, 115, 116, 117, 118, 119, 120, 121, 122, 123, 124, 125, 126, 127, 128, 129, 130, 131, 132, 133, 134, 135, 136, 137, 138, 139, 140, 141, 142, 143, 144, 176, 177, 178, 179, 180, 181, 182, 183, 184, 185, 186, 187, 188, 189, 190, 191, 192, 193, 194, 195, 60, 61, 62, 63, 196, 197, 198, 199, 200, 145, 146, 147, 20, 148, 149, 150, 151, 152, 153, 154, 155, 156, 157, 158, 70, 159, 847, 848, 849, 850, 851, 852, 882, 883, 867, 868, 869, 870, 871, 872, 873, 874, 875, 876, 877, 878, 884, 885, 886, 887, 888, 889, 879, 880, 881] (by decide +kernel) (by decide +kernel)
set_option maxRecDepth 20000 in
theorem gL_law_X5_comeAll : GoodIn wsL_law (wsV RL 18 RX5 yX5_comeAll wsX5_comeAll) := goodIn_app (goodIn_of _ (by decide +kernel)) ggL_law_X5_comeAll
set_option maxRecDepth 20000 in
theorem ggL_law_X6_comeAll : GoodIn wsL_law wsX6_comeAll := goodIn_r _ [297, 89, 298, 87, 88, 299, 300, 301, 5, 302, 303, 304, 305, 306, 307, 308, 309, 310, 311, 312, 313, 314, 315, 316, 317, 86, 208, 209, 210, 318, 319, 320, 321, 322, 323, 324, 325, 83, 82, 211, 212, 213, 214, 215, 216, 217, 218, 219, 220, 221, 222, 223, 224, 225, 226, 227, 228, 229, 230, 231, 232, 233, 234, 235, 236, 237, 238, 239, 240, 241, 242, 243, 244, 326, 327, 328, 329, 250, 251, 252, 253, 254, 255, 256, 257, 258, 259, 260, 261, 262, 263, 264, 265, 330, 331, 332, 333, 245, 246, 247, 248, 249, 84, 853, 854, 855, 856, 857, 858, 859, 860, 861, 862, 863, 864, 865, 866] (by decide +kernel) (by decide +kernel)
set_option maxRecDepth 20000 in
theorem gL_law_X6_comeAll : GoodIn wsL_law (wsV RL 22 RX6 yX6_comeAll wsX6_comeAll) := goodIn_app (goodIn_of _ (by decide +kernel)) ggL_law_X6_comeAll
set_option maxRecDepth 20000 in
theorem ggL_law_X5_leave : GoodIn wsL_law wsX5_leave := goodIn_r _ [337, 15, 21, 338, 131, 132, 14, 133, 101, 40, 134, 111, 112, 37, 113, 59, 145, 146, 147, 20, 148, 149, 150, 151, 152, 153, 154, 155, 156, 157, 158, 70, 159, 160, 161, 162, 163, 164, 165, 166, 34, 38, 39, 41, 42, 43, 167, 168, 169, 33, 170, 53, 49, 50, 51, 52, 171, 172, 173, 174, 175, 339, 340, 341, 342, 196, 61, 62, 63, 343, 344, 345, 346, 347, 348, 349, 350, 192, 193, 194, 195, 139, 2, 140, 141, 114, 115, 60, 142, 143, 144, 116, 117, 351, 352, 353, 354, 110, 355, 356, 357, 358, 359, 360, 361, 362, 363, 364, 365, 366, 367, 368, 369, 370, 184, 185, 186, 187, 371, 103, 104, 105, 106, 107, 108, 109, 372, 373, 374, 375, 376, 377, 378, 379, 380, 381, 382, 383, 384, 385, 386, 387, 388, 389, 390, 391, 392, 393, 394, 395, 396, 397, 398, 399, 400, 401, 130, 402, 403, 404, 405, 406, 407, 408, 409, 410, 411, 412, 118, 119, 120, 121, 413, 414, 415, 416, 417, 418, 419, 420, 421, 847, 848, 849, 850, 851, 852, 867, 868, 869, 870, 871, 872, 873, 874, 875, 876, 877, 878, 889, 879, 880, 881, 884, 885, 886, 887, 888] (by decide +kernel) (by decide +kernel)
set_option maxRecDepth 20000 in
theorem gL_law_X5_leave : GoodIn wsL_law (wsV RL 23 RX5 yX5_leave wsX5_leave) := goodIn_app (goodIn_of _ (by decide +kernel)) ggL_law_X5_leave
set_option maxRecDepth 20000 in
theorem ggL_law_X6_leave : GoodIn wsL_law wsX6_leave := goodIn_r _ [425, 89, 82, 426, 427, 428, 5, 429, 208, 209, 210, 241, 242, 243, 244, 245, 246, 247, 248, 249, 84, 254, 255, 256, 257, 430, 431, 432, 433, 262, 263, 264, 265, 434, 435, 436, 437, 223, 224, 225, 226, 438, 439, 440, 441, 442, 443, 444, 445, 446, 447, 448, 449, 231, 232, 233, 238, 239, 240, 450, 451, 452, 453, 454, 455, 456, 457, 458, 459, 460, 461, 227, 228, 229, 230, 234, 235, 236, 237, 462, 463, 464, 465, 466, 467, 468, 469, 470, 471, 472, 473, 474, 475, 476, 853, 854, 855, 856, 857, 858, 859, 860, 861, 862, 863, 864, 865, 866] (by decide +kernel) (by decide +kernel)
set_option maxRecDepth 20000 in
theorem gL_law_X6_leave : GoodIn wsL_law (wsV RL 27 RX6 yX6_leave wsX6_leave) := goodIn_app (goodIn_of _ (by decide +kernel)) ggL_law_X6_leave
set_option maxRecDepth 20000 in
theorem ggL_law_X5_moveTent : GoodIn wsL_law wsX5_moveTent := goodIn_r _ [480, 15, 21, 338, 131, 132, 14, 133, 101, 40, 134, 111, 112, 37, 113, 59, 94, 95, 2, 96, 481, 103, 104, 33, 105, 53, 106, 107, 108, 109, 49, 50, 51, 110, 114, 115, 116, 117, 482, 119, 120, 121, 52, 483, 145, 146, 147, 20, 148, 149, 150, 151, 152, 153, 154, 155, 156, 157, 158, 70, 159, 160, 161, 162, 163, 164, 165, 166, 34, 38, 39, 41, 42, 43, 167, 168, 169, 170, 171, 172, 173, 174, 175, 484, 198, 199, 200, 196, 61, 62, 63, 485, 123, 124, 125, 847, 848, 849, 850, 851, 852, 867, 868, 869, 870, 871, 872, 873, 874, 875, 876, 877, 878, 889, 884, 885, 886, 887, 888, 879, 880, 881] (by decide +kernel) (by decide +kernel)
set_option maxRecDepth 20000 in
theorem gL_law_X5_moveTent : GoodIn wsL_law (wsV RL 28 RX5 yX5_moveTent wsX5_moveTent) := goodIn_app (goodIn_of _ (by decide +kernel)) ggL_law_X5_moveTent
set_option maxRecDepth 20000 in
theorem ggL_law_X6_moveTent : GoodIn wsL_law wsX6_moveTent := goodIn_r _ [489, 89, 426, 427, 428, 5, 429, 208, 209, 210, 241, 242, 243, 244, 82, 205, 206, 207, 215, 216, 217, 218, 219, 220, 221, 222, 223, 224, 225, 226, 227, 228, 229, 230, 231, 232, 233, 234, 235, 236, 237, 238, 239, 240, 245, 246, 247, 248, 249, 84, 254, 255, 256, 257, 853, 854, 855, 856, 857, 858, 859, 860, 861, 862, 863, 864, 865, 866] (by decide +kernel) (by decide +kernel)
set_option maxRecDepth 20000 in
theorem gL_law_X6_moveTent : GoodIn wsL_law (wsV RL 32 RX6 yX6_moveTent wsX6_moveTent) := goodIn_app (goodIn_of _ (by decide +kernel)) ggL_law_X6_moveTent
set_option maxRecDepth 20000 in
theorem ggL_law_X5_handOver : GoodIn wsL_law wsX5_handOver := goodIn_r _ [493, 15, 21, 94, 95, 2, 96, 338, 131, 132, 14, 133, 101, 40, 134, 111, 112, 37, 113, 59, 481, 103, 104, 33, 105, 53, 106, 107, 108, 109, 49, 50, 51, 110, 114, 115, 116, 117, 482, 119, 120, 121, 52, 494, 127, 128, 129, 34, 38, 39, 130, 135, 495, 373, 374, 375, 376, 377, 378, 379, 380, 381, 382, 383, 384, 385, 386, 387, 388, 389, 390, 391, 392, 393, 394, 395, 396, 397, 496, 402, 403, 404, 145, 146, 147, 20, 148, 149, 150, 151, 152, 153, 154, 155, 156, 157, 158, 70, 159, 160, 161, 162, 163, 164, 165, 166, 41, 42, 43, 167, 168, 169, 170, 171, 172, 173, 174, 175, 497, 498, 499, 500, 409, 410, 411, 412, 60, 61, 62, 63, 367, 368, 369, 370, 184, 185, 141, 186, 187, 144, 371, 118, 413, 414, 415, 416, 192, 193, 194, 195, 139, 140, 142, 143, 417, 418, 419, 420, 847, 848, 849, 850, 851, 852, 867, 868, 869, 870, 871, 872, 873, 874, 875, 876, 877, 878, 889, 884, 885, 886, 887, 888, 879, 880, 881] (by decide +kernel) (by decide +kernel)
set_option maxRecDepth 20000 in
theorem gL_law_X5_handOver : GoodIn wsL_law (wsV RL 33 RX5 yX5_handOver wsX5_handOver) := goodIn_app (goodIn_of _ (by decide +kernel)) ggL_law_X5_handOver
set_option maxRecDepth 20000 in
theorem ggL_law_X6_handOver : GoodIn wsL_law wsX6_handOver := goodIn_r _ [504, 89, 82, 205, 206, 5, 207, 208, 209, 210, 426, 427, 428, 429, 241, 242, 243, 244, 215, 216, 217, 218, 219, 220, 221, 222, 223, 224, 225, 226, 227, 228, 229, 230, 231, 232, 233, 234, 235, 236, 237, 238, 239, 240, 454, 455, 456, 457, 458, 459, 460, 461, 462, 463, 464, 245, 246, 247, 248, 249, 84, 446, 447, 448, 449, 473, 474, 475, 476, 438, 439, 440, 441, 262, 263, 264, 265, 853, 854, 855, 856, 857, 858, 859, 860, 861, 862, 863, 864, 865, 866] (by decide +kernel) (by decide +kernel)
set_option maxRecDepth 20000 in
theorem gL_law_X6_handOver : GoodIn wsL_law (wsV RL 36 RX6 yX6_handOver wsX6_handOver) := goodIn_app (goodIn_of _ (by decide +kernel)) ggL_law_X6_handOver
set_option maxRecDepth 20000 in
theorem ggL_law_X5_lay : GoodIn wsL_law wsX5_lay := goodIn_r _ [508, 15, 21, 94, 95, 2, 96, 145, 146, 147, 20, 148, 149, 150, 151, 152, 153, 154, 155, 156, 157, 158, 70, 159, 160, 161, 14, 162, 101, 163, 164, 165, 166, 34, 38, 39, 40, 41, 42, 43, 167, 168, 169, 33, 170, 53, 49, 50, 51, 52, 171, 172, 173, 37, 174, 59, 175, 509, 510, 511, 512, 196, 61, 62, 63, 513, 514, 515, 516, 847, 848, 849, 850, 851, 852, 867, 868, 869, 870, 871, 872, 873, 874, 875, 876, 877, 878, 879, 880, 881, 884, 885, 886, 887, 888, 889] (by decide +kernel) (by decide +kernel)
set_option maxRecDepth 20000 in
theorem gL_law_X5_lay : GoodIn wsL_law (wsV RL 37 RX5 yX5_lay wsX5_lay) := goodIn_app (goodIn_of _ (by decide +kernel)) ggL_law_X5_lay
set_option maxRecDepth 20000 in
theorem ggL_law_X6_lay : GoodIn wsL_law wsX6_lay := goodIn_r _ [520, 89, 82, 205, 206, 5, 207, 208, 209, 210, 245, 246, 247, 248, 249, 84, 853, 854, 855, 856, 857, 858, 859, 860, 861, 862, 863, 864, 865, 866] (by decide +kernel) (by decide +kernel)
set_option maxRecDepth 20000 in
theorem gL_law_X6_lay : GoodIn wsL_law (wsV RL 40 RX6 yX6_lay wsX6_lay) := goodIn_app (goodIn_of _ (by decide +kernel)) ggL_law_X6_lay
set_option maxRecDepth 20000 in
theorem ggL_law_X5_carry : GoodIn wsL_law wsX5_carry := goodIn_r _ [524, 15, 21, 525, 526, 527, 14, 528, 163, 94, 95, 2, 96, 483, 111, 112, 37, 113, 59, 145, 146, 147, 20, 148, 149, 150, 151, 152, 153, 154, 155, 156, 157, 158, 70, 159, 160, 161, 162, 101, 164, 165, 166, 34, 38, 39, 40, 41, 42, 43, 167, 168, 169, 33, 170, 53, 49, 50, 51, 52, 171, 172, 173, 174, 175, 529, 514, 515, 516, 196, 61, 62, 63, 530, 531, 532, 533, 534, 535, 536, 537, 134, 538, 539, 540, 541, 371, 103, 104, 105, 106, 107, 108, 109, 110, 114, 115, 116, 117, 847, 848, 849, 850, 851, 852, 867, 868, 869, 870, 871, 872, 873, 874, 875, 876, 877, 878, 889, 879, 880, 881, 884, 885, 886, 887, 888] (by decide +kernel) (by decide +kernel)
set_option maxRecDepth 20000 in
theorem gL_law_X5_carry : GoodIn wsL_law (wsV RL 41 RX5 yX5_carry wsX5_carry) := goodIn_app (goodIn_of _ (by decide +kernel)) ggL_law_X5_carry
set_option maxRecDepth 20000 in
theorem ggL_law_X6_carry : GoodIn wsL_law wsX6_carry := goodIn_r _ [545, 89, 82, 546, 547, 548, 5, 549, 208, 209, 210, 205, 206, 207, 550, 551, 552, 553, 245, 246, 247, 248, 249, 84, 554, 555, 556, 557, 215, 216, 217, 218, 219, 220, 221, 222, 223, 224, 225, 226, 227, 228, 229, 230, 231, 232, 233, 234, 235, 236, 237, 238, 239, 240, 853, 854, 855, 856, 857, 858, 859, 860, 861, 862, 863, 864, 865, 866] (by decide +kernel) (by decide +kernel)
set_option maxRecDepth 20000 in
theorem gL_law_X6_carry : GoodIn wsL_law (wsV RL 44 RX6 yX6_carry wsX6_carry) := goodIn_app (goodIn_of _ (by decide +kernel)) ggL_law_X6_carry
set_option maxRecDepth 20000 in
theorem ggL_law_X5_type : GoodIn wsL_law wsX5_type := goodIn_r _ [561, 25, 562, 563, 564, 24, 565, 274, 77, 847, 848, 849, 850, 851, 852, 882, 883] (by decide +kernel) (by decide +kernel)
set_option maxRecDepth 20000 in
theorem gL_law_X5_type : GoodIn wsL_law (wsV RL 45 RX5 yX5_type wsX5_type) := goodIn_app (goodIn_of _ (by decide +kernel)) ggL_law_X5_type
set_option maxRecDepth 20000 in
theorem ggL_law_X6_type : GoodIn wsL_law wsX6_type := goodIn_r _ [569, 89, 305, 86, 853, 854, 855, 856, 857, 858, 859, 860, 861, 862, 863, 864, 865, 866] (by decide +kernel) (by decide +kernel)
set_option maxRecDepth 20000 in
theorem gL_law_X6_type : GoodIn wsL_law (wsV RL 49 RX6 yX6_type wsX6_type) := goodIn_app (goodIn_of _ (by decide +kernel)) ggL_law_X6_type
set_option maxRecDepth 20000 in
theorem ggL_law_X5_clearText : GoodIn wsL_law wsX5_clearText := goodIn_r _ [573, 25, 847, 848, 849, 850, 851, 852, 882, 883] (by decide +kernel) (by decide +kernel)
set_option maxRecDepth 20000 in
theorem gL_law_X5_clearText : GoodIn wsL_law (wsV RL 50 RX5 yX5_clearText wsX5_clearText) := goodIn_app (goodIn_of _ (by decide +kernel)) ggL_law_X5_clearText
set_option maxRecDepth 20000 in
theorem ggL_law_X6_clearText : GoodIn wsL_law wsX6_clearText := goodIn_r _ [577, 89, 305, 853, 854, 855, 856, 857, 858, 859, 860, 861, 862, 863, 864, 865, 866] (by decide +kernel) (by decide +kernel)
set_option maxRecDepth 20000 in
theorem gL_law_X6_clearText : GoodIn wsL_law (wsV RL 53 RX6 yX6_clearText wsX6_clearText) := goodIn_app (goodIn_of _ (by decide +kernel)) ggL_law_X6_clearText
set_option maxRecDepth 20000 in
theorem ggL_law_X5_undo : GoodIn wsL_law wsX5_undo := goodIn_r _ [581, 21, 15, 582, 583, 584, 20, 585, 149, 150, 155, 156, 157, 158, 70, 159, 160, 161, 14, 162, 101, 163, 164, 165, 166, 34, 38, 39, 40, 41, 42, 43, 167, 168, 169, 33, 170, 53, 49, 50, 51, 52, 171, 172, 173, 37, 174, 59, 175, 847, 848, 849, 850, 851, 852, 879, 880, 881, 867, 868, 869, 870, 871, 872, 873, 874, 875, 876, 877, 878, 884, 885, 886, 887, 888, 889] (by decide +kernel) (by decide +kernel)
set_option maxRecDepth 20000 in
theorem gL_law_X5_undo : GoodIn wsL_law (wsV RL 54 RX5 yX5_undo wsX5_undo) := goodIn_app (goodIn_of _ (by decide +kernel)) ggL_law_X5_undo
set_option maxRecDepth 20000 in
theorem ggL_law_X6_undo : GoodIn wsL_law wsX6_undo := goodIn_r _ [589, 89, 249, 82, 84, 853, 854, 855, 856, 857, 858, 859, 860, 861, 862, 863, 864, 865, 866] (by decide +kernel) (by decide +kernel)
set_option maxRecDepth 20000 in
theorem gL_law_X6_undo : GoodIn wsL_law (wsV RL 57 RX6 yX6_undo wsX6_undo) := goodIn_app (goodIn_of _ (by decide +kernel)) ggL_law_X6_undo
set_option maxRecDepth 20000 in
theorem ggL_law_X5_keep : GoodIn wsL_law wsX5_keep := goodIn_r _ [593, 17, 15, 26, 285, 160, 161, 14, 162, 101, 163, 164, 165, 166, 34, 38, 39, 40, 41, 42, 43, 167, 168, 169, 33, 170, 53, 49, 50, 51, 52, 171, 172, 173, 37, 174, 59, 175, 421, 344, 345, 346, 134, 111, 112, 113, 847, 848, 849, 850, 851, 852, 867, 868, 869, 870, 871, 872, 873, 874, 875, 876, 877, 878, 884, 885, 886, 887, 888, 889] (by decide +kernel) (by decide +kernel)
set_option maxRecDepth 20000 in
theorem gL_law_X5_keep : GoodIn wsL_law (wsV RL 58 RX5 yX5_keep wsX5_keep) := goodIn_app (goodIn_of _ (by decide +kernel)) ggL_law_X5_keep
set_option maxRecDepth 20000 in
theorem ggL_law_X6_keep : GoodIn wsL_law wsX6_keep := goodIn_r _ [597, 89, 85, 82, 598, 430, 431, 432, 5, 433, 241, 242, 243, 244, 853, 854, 855, 856, 857, 858, 859, 860, 861, 862, 863, 864, 865, 866] (by decide +kernel) (by decide +kernel)
set_option maxRecDepth 20000 in
theorem gL_law_X6_keep : GoodIn wsL_law (wsV RL 61 RX6 yX6_keep wsX6_keep) := goodIn_app (goodIn_of _ (by decide +kernel)) ggL_law_X6_keep
set_option maxRecDepth 20000 in
theorem ggL_law_X5_restore : GoodIn wsL_law wsX5_restore := goodIn_r _ [602, 26, 21, 15, 17, 145, 146, 147, 20, 148, 149, 150, 151, 152, 153, 154, 155, 156, 157, 158, 70, 159, 160, 161, 14, 162, 101, 163, 164, 165, 166, 34, 38, 39, 40, 41, 42, 43, 167, 168, 169, 33, 170, 53, 49, 50, 51, 52, 171, 172, 173, 37, 174, 59, 175, 285, 421, 344, 345, 346, 134, 111, 112, 113, 847, 848, 849, 850, 851, 852, 879, 880, 881, 867, 868, 869, 870, 871, 872, 873, 874, 875, 876, 877, 878, 884, 885, 886, 887, 888, 889] (by decide +kernel) (by decide +kernel)
set_option maxRecDepth 20000 in
theorem gL_law_X5_restore : GoodIn wsL_law (wsV RL 62 RX5 yX5_restore wsX5_restore) := goodIn_app (goodIn_of _ (by decide +kernel)) ggL_law_X5_restore
set_option maxRecDepth 20000 in
theorem ggL_law_X6_restore : GoodIn wsL_law wsX6_restore := goodIn_r _ [606, 89, 598, 82, 85, 245, 246, 247, 5, 248, 249, 84, 430, 431, 432, 433, 241, 242, 243, 244, 853, 854, 855, 856, 857, 858, 859, 860, 861, 862, 863, 864, 865, 866] (by decide +kernel) (by decide +kernel)
set_option maxRecDepth 20000 in
theorem gL_law_X6_restore : GoodIn wsL_law (wsV RL 65 RX6 yX6_restore wsX6_restore) := goodIn_app (goodIn_of _ (by decide +kernel)) ggL_law_X6_restore
set_option maxRecDepth 20000 in
theorem ggL_law_X5_plot : GoodIn wsL_law wsX5_plot := goodIn_r _ [610, 15, 94, 95, 2, 96, 481, 103, 104, 33, 105, 53, 106, 107, 108, 109, 49, 50, 51, 110, 111, 112, 37, 113, 59, 114, 115, 116, 117, 482, 119, 120, 121, 52, 611, 612, 613, 485, 123, 124, 125, 614, 381, 382, 383, 615, 389, 390, 391, 616, 385, 386, 387, 617, 393, 394, 395, 618, 619, 620, 621, 376, 377, 378, 379, 380, 384, 388, 392, 847, 848, 849, 850, 851, 852, 867, 868, 869, 870, 871, 872, 873, 874, 875, 876, 877, 878, 884, 885, 886, 887, 888, 889] (by decide +kernel) (by decide +kernel)
set_option maxRecDepth 20000 in
theorem gL_law_X5_plot : GoodIn wsL_law (wsV RL 66 RX5 yX5_plot wsX5_plot) := goodIn_app (goodIn_of _ (by decide +kernel)) ggL_law_X5_plot
set_option maxRecDepth 20000 in
theorem ggL_law_X6_plot : GoodIn wsL_law wsX6_plot := goodIn_r _ [625, 89, 205, 206, 5, 207, 208, 209, 210, 215, 216, 217, 218, 219, 220, 221, 222, 223, 224, 225, 226, 82, 227, 228, 229, 230, 231, 232, 233, 234, 235, 236, 237, 238, 239, 240, 626, 627, 628, 629, 458, 459, 460, 461, 462, 463, 464, 853, 854, 855, 856, 857, 858, 859, 860, 861, 862, 863, 864, 865, 866] (by decide +kernel) (by decide +kernel)
set_option maxRecDepth 20000 in
theorem gL_law_X6_plot : GoodIn wsL_law (wsV RL 69 RX6 yX6_plot wsX6_plot) := goodIn_app (goodIn_of _ (by decide +kernel)) ggL_law_X6_plot
set_option maxRecDepth 20000 in
theorem ggL_law_X5_camper : GoodIn wsL_law wsX5_camper := goodIn_r _ [633, 15, 338, 131, 132, 14, 133, 101, 40, 134, 111, 112, 37, 113, 59, 483, 634, 635, 636, 33, 637, 53, 52, 110, 638, 406, 407, 408, 51, 114, 2, 115, 116, 117, 639, 640, 641, 642, 163, 643, 535, 536, 537, 34, 41, 42, 538, 539, 540, 541, 371, 103, 104, 105, 106, 107, 108, 109, 49, 50, 644, 645, 646, 647, 648, 373, 374, 375, 376, 377, 378, 379, 380, 381, 382, 383, 384, 385, 386, 387, 388, 389, 390, 391, 392, 393, 394, 395, 396, 397, 649, 650, 651, 652, 653, 654, 655, 656, 657, 658, 659, 660, 661, 662, 663, 43, 664, 665, 666, 667, 668, 847, 848, 849, 850, 851, 852, 867, 868, 869, 870, 871, 872, 873, 874, 875, 876, 877, 878, 889, 884, 885, 886, 887, 888] (by decide +kernel) (by decide +kernel)
set_option maxRecDepth 20000 in
theorem gL_law_X5_camper : GoodIn wsL_law (wsV RL 70 RX5 yX5_camper wsX5_camper) := goodIn_app (goodIn_of _ (by decide +kernel)) ggL_law_X5_camper
set_option maxRecDepth 20000 in
theorem ggL_law_X6_camper : GoodIn wsL_law wsX6_camper := goodIn_r _ [672, 89, 426, 427, 428, 5, 429, 208, 209, 210, 241, 242, 243, 244, 82, 673, 674, 675, 676, 223, 224, 225, 226, 465, 466, 467, 468, 469, 470, 471, 472, 231, 232, 233, 238, 239, 240, 677, 678, 679, 680, 554, 555, 556, 557, 550, 551, 552, 553, 215, 216, 217, 218, 219, 220, 221, 222, 227, 228, 229, 230, 234, 235, 236, 237, 681, 682, 683, 684, 685, 686, 687, 688, 454, 455, 456, 457, 458, 459, 460, 461, 462, 463, 464, 689, 690, 691, 692, 693, 694, 695, 696, 697, 698, 699, 700, 701, 702, 703, 704, 705, 706, 707, 708, 853, 854, 855, 856, 857, 858, 859, 860, 861, 862, 863, 864, 865, 866] (by decide +kernel) (by decide +kernel)
set_option maxRecDepth 20000 in
theorem gL_law_X6_camper : GoodIn wsL_law (wsV RL 73 RX6 yX6_camper wsX6_camper) := goodIn_app (goodIn_of _ (by decide +kernel)) ggL_law_X6_camper
set_option maxRecDepth 20000 in
theorem ggL_law_X5_plotOf : GoodIn wsL_law wsX5_plotOf := goodIn_r _ [712, 15, 338, 131, 132, 14, 133, 101, 40, 134, 111, 112, 37, 113, 59, 713, 714, 715, 33, 716, 53, 52, 110, 717, 718, 719, 720, 359, 360, 361, 362, 49, 50, 614, 381, 382, 383, 615, 389, 390, 391, 485, 123, 124, 125, 51, 847, 848, 849, 850, 851, 852, 867, 868, 869, 870, 871, 872, 873, 874, 875, 876, 877, 878, 889, 884, 885, 886, 887, 888] (by decide +kernel) (by decide +kernel)
set_option maxRecDepth 20000 in
theorem gL_law_X5_plotOf : GoodIn wsL_law (wsV RL 74 RX5 yX5_plotOf wsX5_plotOf) := goodIn_app (goodIn_of _ (by decide +kernel)) ggL_law_X5_plotOf
set_option maxRecDepth 20000 in
theorem ggL_law_X6_plotOf : GoodIn wsL_law wsX6_plotOf := goodIn_r _ [724, 89, 82, 426, 427, 428, 5, 429, 208, 209, 210, 241, 242, 243, 244, 223, 224, 225, 226, 725, 726, 727, 728, 438, 439, 440, 441, 853, 854, 855, 856, 857, 858, 859, 860, 861, 862, 863, 864, 865, 866] (by decide +kernel) (by decide +kernel)
set_option maxRecDepth 20000 in
theorem gL_law_X6_plotOf : GoodIn wsL_law (wsV RL 77 RX6 yX6_plotOf wsX6_plotOf) := goodIn_app (goodIn_of _ (by decide +kernel)) ggL_law_X6_plotOf
set_option maxRecDepth 20000 in
theorem ggL_law_X5_song : GoodIn wsL_law wsX5_song := goodIn_r _ [732, 15, 525, 526, 527, 14, 528, 163, 483, 111, 112, 37, 113, 59, 733, 661, 662, 663, 43, 664, 134, 665, 666, 2, 667, 668, 530, 531, 532, 533, 534, 535, 536, 537, 34, 41, 42, 538, 539, 540, 33, 541, 52, 371, 103, 104, 105, 53, 106, 107, 108, 109, 49, 50, 51, 110, 114, 115, 116, 117, 847, 848, 849, 850, 851, 852, 867, 868, 869, 870, 871, 872, 873, 874, 875, 876, 877, 878, 889, 884, 885, 886, 887, 888] (by decide +kernel) (by decide +kernel)
set_option maxRecDepth 20000 in
theorem gL_law_X5_song : GoodIn wsL_law (wsV RL 78 RX5 yX5_song wsX5_song) := goodIn_app (goodIn_of _ (by decide +kernel)) ggL_law_X5_song
set_option maxRecDepth 20000 in
theorem ggL_law_X6_song : GoodIn wsL_law wsX6_song := goodIn_r _ [737, 89, 546, 547, 548, 5, 549, 82, 208, 209, 210, 550, 551, 552, 553, 693, 694, 695, 696, 697, 698, 699, 700, 701, 702, 703, 704, 705, 706, 707, 708, 554, 555, 556, 557, 215, 216, 217, 218, 219, 220, 221, 222, 223, 224, 225, 226, 227, 228, 229, 230, 231, 232, 233, 234, 235, 236, 237, 238, 239, 240, 853, 854, 855, 856, 857, 858, 859, 860, 861, 862, 863, 864, 865, 866] (by decide +kernel) (by decide +kernel)
set_option maxRecDepth 20000 in
theorem gL_law_X6_song : GoodIn wsL_law (wsV RL 81 RX6 yX6_song wsX6_song) := goodIn_app (goodIn_of _ (by decide +kernel)) ggL_law_X6_song
set_option maxRecDepth 20000 in
theorem ggL_law_X5_way : GoodIn wsL_law wsX5_way := goodIn_r _ [741, 15, 338, 131, 132, 14, 133, 101, 40, 134, 111, 112, 37, 113, 59, 94, 95, 2, 96, 742, 743, 744, 745, 34, 38, 39, 102, 103, 104, 33, 105, 53, 106, 107, 108, 109, 49, 50, 51, 110, 114, 115, 116, 117, 135, 746, 747, 748, 749, 376, 377, 378, 379, 380, 381, 382, 383, 384, 385, 386, 387, 388, 389, 390, 391, 392, 393, 394, 395, 750, 751, 752, 753, 754, 755, 756, 757, 758, 759, 760, 359, 360, 361, 362, 482, 119, 120, 121, 52, 614, 615, 847, 848, 849, 850, 851, 852, 867, 868, 869, 870, 871, 872, 873, 874, 875, 876, 877, 878, 889, 884, 885, 886, 887, 888] (by decide +kernel) (by decide +kernel)
set_option maxRecDepth 20000 in
theorem gL_law_X5_way : GoodIn wsL_law (wsV RL 82 RX5 yX5_way wsX5_way) := goodIn_app (goodIn_of _ (by decide +kernel)) ggL_law_X5_way
set_option maxRecDepth 20000 in
theorem ggL_law_X6_way : GoodIn wsL_law wsX6_way := goodIn_r _ [764, 89, 426, 427, 428, 5, 429, 208, 209, 210, 241, 242, 243, 244, 82, 205, 206, 207, 765, 766, 767, 768, 215, 216, 217, 218, 219, 220, 221, 222, 223, 224, 225, 226, 227, 228, 229, 230, 231, 232, 233, 234, 235, 236, 237, 238, 239, 240, 769, 770, 771, 772, 773, 458, 459, 460, 461, 462, 463, 464, 774, 775, 776, 777, 778, 779, 780, 438, 439, 440, 441, 853, 854, 855, 856, 857, 858, 859, 860, 861, 862, 863, 864, 865, 866] (by decide +kernel) (by decide +kernel)
set_option maxRecDepth 20000 in
theorem gL_law_X6_way : GoodIn wsL_law (wsV RL 86 RX6 yX6_way wsX6_way) := goodIn_app (goodIn_of _ (by decide +kernel)) ggL_law_X6_way
set_option maxRecDepth 20000 in
theorem ggL_law_X5_would : GoodIn wsL_law wsX5_would := goodIn_r _ [784, 15, 94, 95, 2, 96, 97, 98, 99, 14, 100, 101, 34, 38, 39, 102, 103, 104, 33, 105, 53, 106, 107, 108, 109, 49, 50, 51, 110, 111, 112, 37, 113, 59, 114, 115, 116, 117, 118, 119, 120, 121, 52, 122, 123, 124, 125, 126, 127, 128, 129, 130, 131, 132, 133, 40, 134, 135, 136, 137, 138, 139, 140, 141, 142, 143, 144, 785, 786, 787, 788, 163, 41, 42, 789, 539, 540, 541, 371, 611, 612, 613, 847, 848, 849, 850, 851, 852, 867, 868, 869, 870, 871, 872, 873, 874, 875, 876, 877, 878, 884, 885, 886, 887, 888, 889] (by decide +kernel) (by decide +kernel)
set_option maxRecDepth 20000 in
theorem gL_law_X5_would : GoodIn wsL_law (wsV RL 87 RX5 yX5_would wsX5_would) := goodIn_app (goodIn_of _ (by decide +kernel)) ggL_law_X5_would
set_option maxRecDepth 20000 in
theorem ggL_law_X6_would : GoodIn wsL_law wsX6_would := goodIn_r _ [793, 89, 205, 206, 5, 207, 208, 209, 210, 211, 212, 213, 214, 82, 215, 216, 217, 218, 219, 220, 221, 222, 223, 224, 225, 226, 227, 228, 229, 230, 231, 232, 233, 234, 235, 236, 237, 238, 239, 240, 241, 242, 243, 244, 322, 323, 324, 325, 83, 250, 251, 252, 253, 254, 255, 256, 257, 258, 259, 260, 261, 262, 263, 264, 265, 677, 678, 679, 680, 554, 555, 556, 557, 550, 551, 552, 553, 326, 327, 328, 329, 853, 854, 855, 856, 857, 858, 859, 860, 861, 862, 863, 864, 865, 866] (by decide +kernel) (by decide +kernel)
set_option maxRecDepth 20000 in
theorem gL_law_X6_would : GoodIn wsL_law (wsV RL 90 RX6 yX6_would wsX6_would) := goodIn_app (goodIn_of _ (by decide +kernel)) ggL_law_X6_would
set_option maxRecDepth 20000 in
theorem ggL_law_X5_loudest : GoodIn wsL_law wsX5_loudest := goodIn_r _ [797, 798, 15, 338, 131, 132, 14, 133, 101, 40, 134, 111, 112, 37, 113, 59, 656, 657, 658, 659, 163, 643, 535, 536, 537, 34, 41, 42, 538, 539, 540, 33, 541, 52, 371, 103, 104, 105, 53, 106, 107, 108, 109, 49, 50, 51, 110, 114, 2, 115, 116, 117, 660, 661, 662, 663, 43, 664, 847, 848, 849, 850, 851, 852, 867, 868, 869, 870, 871, 872, 873, 874, 875, 876, 877, 878, 889, 884, 885, 886, 887, 888] (by decide +kernel) (by decide +kernel)
set_option maxRecDepth 20000 in
theorem gL_law_X5_loudest : GoodIn wsL_law (wsV RL 91 RX5 yX5_loudest wsX5_loudest) := goodIn_app (goodIn_of _ (by decide +kernel)) ggL_law_X5_loudest
set_option maxRecDepth 20000 in
theorem ggL_law_X6_loudest : GoodIn wsL_law wsX6_loudest := goodIn_r _ [802, 89, 426, 427, 428, 5, 429, 208, 209, 210, 241, 242, 243, 244, 82, 689, 690, 691, 692, 554, 555, 556, 557, 550, 551, 552, 553, 215, 216, 217, 218, 219, 220, 221, 222, 223, 224, 225, 226, 227, 228, 229, 230, 231, 232, 233, 234, 235, 236, 237, 238, 239, 240, 693, 694, 695, 696, 853, 854, 855, 856, 857, 858, 859, 860, 861, 862, 863, 864, 865, 866] (by decide +kernel) (by decide +kernel)
set_option maxRecDepth 20000 in
theorem gL_law_X6_loudest : GoodIn wsL_law (wsV RL 94 RX6 yX6_loudest wsX6_loudest) := goodIn_app (goodIn_of _ (by decide +kernel)) ggL_law_X6_loudest
set_option maxRecDepth 20000 in
theorem ggL_law_X5_share : GoodIn wsL_law wsX5_share := goodIn_r _ [806, 15, 798, 807, 338, 131, 132, 14, 133, 101, 40, 134, 111, 112, 37, 113, 59, 638, 406, 407, 33, 408, 53, 52, 51, 110, 114, 2, 115, 116, 117, 847, 848, 849, 850, 851, 852, 867, 868, 869, 870, 871, 872, 873, 874, 875, 876, 877, 878, 889, 884, 885, 886, 887, 888] (by decide +kernel) (by decide +kernel)
set_option maxRecDepth 20000 in
theorem gL_law_X5_share : GoodIn wsL_law (wsV RL 95 RX5 yX5_share wsX5_share) := goodIn_app (goodIn_of _ (by decide +kernel)) ggL_law_X5_share
set_option maxRecDepth 20000 in
theorem ggL_law_X6_share : GoodIn wsL_law wsX6_share := goodIn_r _ [811, 89, 812, 813, 426, 427, 428, 5, 429, 208, 209, 210, 241, 242, 243, 244, 82, 465, 466, 467, 468, 223, 224, 225, 226, 469, 470, 471, 472, 231, 232, 233, 238, 239, 240, 853, 854, 855, 856, 857, 858, 859, 860, 861, 862, 863, 864, 865, 866] (by decide +kernel) (by decide +kernel)
set_option maxRecDepth 20000 in
theorem gL_law_X6_share : GoodIn wsL_law (wsV RL 99 RX6 yX6_share wsX6_share) := goodIn_app (goodIn_of _ (by decide +kernel)) ggL_law_X6_share
set_option maxRecDepth 20000 in
theorem ggL_law_X5_count : GoodIn wsL_law wsX5_count := goodIn_r _ [817, 15, 21, 25, 421, 344, 345, 14, 346, 101, 40, 134, 111, 112, 37, 113, 59, 818, 819, 820, 33, 821, 53, 51, 822, 823, 153, 824, 110, 825, 826, 827, 828, 829, 152, 154, 830, 831, 832, 833, 34, 834, 635, 636, 637, 52, 847, 848, 849, 850, 851, 852, 867, 868, 869, 870, 871, 872, 873, 874, 875, 876, 877, 878, 884, 885, 886, 887, 888, 879, 880, 881, 882, 883, 889] (by decide +kernel) (by decide +kernel)
set_option maxRecDepth 20000 in
theorem gL_law_X5_count : GoodIn wsL_law (wsV RL 100 RX5 yX5_count wsX5_count) := goodIn_app (goodIn_of _ (by decide +kernel)) ggL_law_X5_count
set_option maxRecDepth 20000 in
theorem ggL_law_X6_count : GoodIn wsL_law wsX6_count := goodIn_r _ [838, 89, 82, 249, 305, 430, 431, 432, 5, 433, 241, 242, 243, 244, 839, 840, 841, 842, 223, 224, 225, 226, 843, 844, 845, 846, 426, 427, 428, 429, 208, 209, 210, 673, 674, 675, 676, 853, 854, 855, 856, 857, 858, 859, 860, 861, 862, 863, 864, 865, 866] (by decide +kernel) (by decide +kernel)
set_option maxRecDepth 20000 in
theorem gL_law_X6_count : GoodIn wsL_law (wsV RL 103 RX6 yX6_count wsX6_count) := goodIn_app (goodIn_of _ (by decide +kernel)) ggL_law_X6_count
theorem dL_law_0 : decode cL_law 0 = .ok (.new 7, 3) := by decide +kernel
theorem dL_law_3 : decode cL_law 3 = .ok (.dup, 1) := by decide +kernel
theorem dL_law_4 : decode cL_law 4 = .ok (.invokespecial 9, 3) := by decide +kernel
theorem dL_law_7 : decode cL_law 7 = .ok (.astore_n 1, 1) := by decide +kernel
theorem dL_law_8 : decode cL_law 8 = .ok (.new 10, 3) := by decide +kernel
theorem dL_law_11 : decode cL_law 11 = .ok (.dup, 1) := by decide +kernel
theorem dL_law_12 : decode cL_law 12 = .ok (.invokespecial 12, 3) := by decide +kernel
theorem dL_law_15 : decode cL_law 15 = .ok (.astore_n 2, 1) := by decide +kernel
theorem dL_law_16 : decode cL_law 16 = .ok (.iconst 0, 1) := by decide +kernel
theorem dL_law_17 : decode cL_law 17 = .ok (.istore_n 3, 1) := by decide +kernel
theorem dL_law_18 : decode cL_law 18 = .ok (.iload_n 3, 1) := by decide +kernel
theorem dL_law_19 : decode cL_law 19 = .ok (.aload_n 0, 1) := by decide +kernel
theorem dL_law_20 : decode cL_law 20 = .ok (.arraylength, 1) := by decide +kernel
theorem dL_law_21 : decode cL_law 21 = .ok (.bipush 6, 2) := by decide +kernel
theorem dL_law_23 : decode cL_law 23 = .ok (.isub, 1) := by decide +kernel
theorem dL_law_24 : decode cL_law 24 = .ok (.if_icmp .gt 779, 3) := by decide +kernel
theorem dL_law_27 : decode cL_law 27 = .ok (.aload_n 0, 1) := by decide +kernel
theorem dL_law_28 : decode cL_law 28 = .ok (.iload_n 3, 1) := by decide +kernel
theorem dL_law_29 : decode cL_law 29 = .ok (.iaload, 1) := by decide +kernel
theorem dL_law_30 : decode cL_law 30 = .ok (.bipush 31, 2) := by decide +kernel
theorem dL_law_32 : decode cL_law 32 = .ok (.iand, 1) := by decide +kernel
theorem dL_law_33 : decode cL_law 33 = .ok (.tableswitch 764 0 20 #[99, 132, 145, 168, 211, 254, 297, 340, 365, 378, 391, 404, 417, 460, 493, 536, 569, 632, 675, 688, 741], 99) := by decide +kernel
theorem dL_law_132 : decode cL_law 132 = .ok (.aload_n 1, 1) := by decide +kernel
theorem dL_law_133 : decode cL_law 133 = .ok (.aload_n 0, 1) := by decide +kernel
theorem dL_law_134 : decode cL_law 134 = .ok (.iload_n 3, 1) := by decide +kernel
theorem dL_law_135 : decode cL_law 135 = .ok (.iconst 1, 1) := by decide +kernel
theorem dL_law_136 : decode cL_law 136 = .ok (.iadd, 1) := by decide +kernel
theorem dL_law_137 : decode cL_law 137 = .ok (.iaload, 1) := by decide +kernel
theorem dL_law_138 : decode cL_law 138 = .ok (.aload_n 0, 1) := by decide +kernel
theorem dL_law_139 : decode cL_law 139 = .ok (.iload_n 3, 1) := by decide +kernel
theorem dL_law_140 : decode cL_law 140 = .ok (.iconst 2, 1) := by decide +kernel
theorem dL_law_141 : decode cL_law 141 = .ok (.iadd, 1) := by decide +kernel
theorem dL_law_142 : decode cL_law 142 = .ok (.iaload, 1) := by decide +kernel
theorem dL_law_143 : decode cL_law 143 = .ok (.invokevirtual 13, 3) := by decide +kernel
theorem dL_law_146 : decode cL_law 146 = .ok (.aload_n 2, 1) := by decide +kernel
theorem dL_law_147 : decode cL_law 147 = .ok (.aload_n 0, 1) := by decide +kernel
theorem dL_law_148 : decode cL_law 148 = .ok (.iload_n 3, 1) := by decide +kernel
theorem dL_law_149 : decode cL_law 149 = .ok (.iconst 1, 1) := by decide +kernel
theorem dL_law_150 : decode cL_law 150 = .ok (.iadd, 1) := by decide +kernel
theorem dL_law_151 : decode cL_law 151 = .ok (.iaload, 1) := by decide +kernel
theorem dL_law_152 : decode cL_law 152 = .ok (.aload_n 0, 1) := by decide +kernel
theorem dL_law_153 : decode cL_law 153 = .ok (.iload_n 3, 1) := by decide +kernel
theorem dL_law_154 : decode cL_law 154 = .ok (.iconst 2, 1) := by decide +kernel
theorem dL_law_155 : decode cL_law 155 = .ok (.iadd, 1) := by decide +kernel
theorem dL_law_156 : decode cL_law 156 = .ok (.iaload, 1) := by decide +kernel
theorem dL_law_157 : decode cL_law 157 = .ok (.invokevirtual 17, 3) := by decide +kernel
theorem dL_law_160 : decode cL_law 160 = .ok (.if_icmp .eq 637, 3) := by decide +kernel
theorem dL_law_163 : decode cL_law 163 = .ok (.iconst 0, 1) := by decide +kernel
theorem dL_law_164 : decode cL_law 164 = .ok (.ireturn, 1) := by decide +kernel
theorem dL_law_165 : decode cL_law 165 = .ok (.aload_n 1, 1) := by decide +kernel
theorem dL_law_166 : decode cL_law 166 = .ok (.invokevirtual 18, 3) := by decide +kernel
theorem dL_law_169 : decode cL_law 169 = .ok (.aload_n 2, 1) := by decide +kernel
theorem dL_law_170 : decode cL_law 170 = .ok (.invokevirtual 22, 3) := by decide +kernel
theorem dL_law_173 : decode cL_law 173 = .ok (.if_icmp .eq 624, 3) := by decide +kernel
theorem dL_law_176 : decode cL_law 176 = .ok (.iconst 0, 1) := by decide +kernel
theorem dL_law_177 : decode cL_law 177 = .ok (.ireturn, 1) := by decide +kernel
theorem dL_law_178 : decode cL_law 178 = .ok (.aload_n 1, 1) := by decide +kernel
theorem dL_law_179 : decode cL_law 179 = .ok (.aload_n 0, 1) := by decide +kernel
theorem dL_law_180 : decode cL_law 180 = .ok (.iload_n 3, 1) := by decide +kernel
theorem dL_law_181 : decode cL_law 181 = .ok (.iconst 1, 1) := by decide +kernel
theorem dL_law_182 : decode cL_law 182 = .ok (.iadd, 1) := by decide +kernel
theorem dL_law_183 : decode cL_law 183 = .ok (.iaload, 1) := by decide +kernel
theorem dL_law_184 : decode cL_law 184 = .ok (.invokevirtual 23, 3) := by decide +kernel
theorem dL_law_187 : decode cL_law 187 = .ok (.aload_n 2, 1) := by decide +kernel
theorem dL_law_188 : decode cL_law 188 = .ok (.aload_n 0, 1) := by decide +kernel
theorem dL_law_189 : decode cL_law 189 = .ok (.iload_n 3, 1) := by decide +kernel
theorem dL_law_190 : decode cL_law 190 = .ok (.iconst 1, 1) := by decide +kernel
theorem dL_law_191 : decode cL_law 191 = .ok (.iadd, 1) := by decide +kernel
theorem dL_law_192 : decode cL_law 192 = .ok (.iaload, 1) := by decide +kernel
theorem dL_law_193 : decode cL_law 193 = .ok (.invokevirtual 27, 3) := by decide +kernel
theorem dL_law_196 : decode cL_law 196 = .ok (.if_icmp .eq 601, 3) := by decide +kernel
theorem dL_law_199 : decode cL_law 199 = .ok (.iconst 0, 1) := by decide +kernel
theorem dL_law_200 : decode cL_law 200 = .ok (.ireturn, 1) := by decide +kernel
theorem dL_law_201 : decode cL_law 201 = .ok (.aload_n 1, 1) := by decide +kernel
theorem dL_law_202 : decode cL_law 202 = .ok (.aload_n 0, 1) := by decide +kernel
theorem dL_law_203 : decode cL_law 203 = .ok (.iload_n 3, 1) := by decide +kernel
theorem dL_law_204 : decode cL_law 204 = .ok (.iconst 1, 1) := by decide +kernel
theorem dL_law_205 : decode cL_law 205 = .ok (.iadd, 1) := by decide +kernel
theorem dL_law_206 : decode cL_law 206 = .ok (.iaload, 1) := by decide +kernel
theorem dL_law_207 : decode cL_law 207 = .ok (.aload_n 0, 1) := by decide +kernel
theorem dL_law_208 : decode cL_law 208 = .ok (.iload_n 3, 1) := by decide +kernel
theorem dL_law_209 : decode cL_law 209 = .ok (.iconst 2, 1) := by decide +kernel
theorem dL_law_210 : decode cL_law 210 = .ok (.iadd, 1) := by decide +kernel
theorem dL_law_211 : decode cL_law 211 = .ok (.iaload, 1) := by decide +kernel
theorem dL_law_212 : decode cL_law 212 = .ok (.aload_n 0, 1) := by decide +kernel
theorem dL_law_213 : decode cL_law 213 = .ok (.iload_n 3, 1) := by decide +kernel
theorem dL_law_214 : decode cL_law 214 = .ok (.iconst 3, 1) := by decide +kernel
theorem dL_law_215 : decode cL_law 215 = .ok (.iadd, 1) := by decide +kernel
theorem dL_law_216 : decode cL_law 216 = .ok (.iaload, 1) := by decide +kernel
theorem dL_law_217 : decode cL_law 217 = .ok (.invokevirtual 28, 3) := by decide +kernel
theorem dL_law_220 : decode cL_law 220 = .ok (.aload_n 2, 1) := by decide +kernel
theorem dL_law_221 : decode cL_law 221 = .ok (.aload_n 0, 1) := by decide +kernel
theorem dL_law_222 : decode cL_law 222 = .ok (.iload_n 3, 1) := by decide +kernel
theorem dL_law_223 : decode cL_law 223 = .ok (.iconst 1, 1) := by decide +kernel
theorem dL_law_224 : decode cL_law 224 = .ok (.iadd, 1) := by decide +kernel
theorem dL_law_225 : decode cL_law 225 = .ok (.iaload, 1) := by decide +kernel
theorem dL_law_226 : decode cL_law 226 = .ok (.aload_n 0, 1) := by decide +kernel
theorem dL_law_227 : decode cL_law 227 = .ok (.iload_n 3, 1) := by decide +kernel
theorem dL_law_228 : decode cL_law 228 = .ok (.iconst 2, 1) := by decide +kernel
theorem dL_law_229 : decode cL_law 229 = .ok (.iadd, 1) := by decide +kernel
theorem dL_law_230 : decode cL_law 230 = .ok (.iaload, 1) := by decide +kernel
theorem dL_law_231 : decode cL_law 231 = .ok (.aload_n 0, 1) := by decide +kernel
theorem dL_law_232 : decode cL_law 232 = .ok (.iload_n 3, 1) := by decide +kernel
theorem dL_law_233 : decode cL_law 233 = .ok (.iconst 3, 1) := by decide +kernel
theorem dL_law_234 : decode cL_law 234 = .ok (.iadd, 1) := by decide +kernel
theorem dL_law_235 : decode cL_law 235 = .ok (.iaload, 1) := by decide +kernel
theorem dL_law_236 : decode cL_law 236 = .ok (.invokevirtual 32, 3) := by decide +kernel
theorem dL_law_239 : decode cL_law 239 = .ok (.if_icmp .eq 558, 3) := by decide +kernel
theorem dL_law_242 : decode cL_law 242 = .ok (.iconst 0, 1) := by decide +kernel
theorem dL_law_243 : decode cL_law 243 = .ok (.ireturn, 1) := by decide +kernel
theorem dL_law_244 : decode cL_law 244 = .ok (.aload_n 1, 1) := by decide +kernel
theorem dL_law_245 : decode cL_law 245 = .ok (.aload_n 0, 1) := by decide +kernel
theorem dL_law_246 : decode cL_law 246 = .ok (.iload_n 3, 1) := by decide +kernel
theorem dL_law_247 : decode cL_law 247 = .ok (.iconst 1, 1) := by decide +kernel
theorem dL_law_248 : decode cL_law 248 = .ok (.iadd, 1) := by decide +kernel
theorem dL_law_249 : decode cL_law 249 = .ok (.iaload, 1) := by decide +kernel
theorem dL_law_250 : decode cL_law 250 = .ok (.aload_n 0, 1) := by decide +kernel
theorem dL_law_251 : decode cL_law 251 = .ok (.iload_n 3, 1) := by decide +kernel
theorem dL_law_252 : decode cL_law 252 = .ok (.iconst 2, 1) := by decide +kernel
theorem dL_law_253 : decode cL_law 253 = .ok (.iadd, 1) := by decide +kernel
theorem dL_law_254 : decode cL_law 254 = .ok (.iaload, 1) := by decide +kernel
theorem dL_law_255 : decode cL_law 255 = .ok (.aload_n 0, 1) := by decide +kernel
theorem dL_law_256 : decode cL_law 256 = .ok (.iload_n 3, 1) := by decide +kernel
theorem dL_law_257 : decode cL_law 257 = .ok (.iconst 3, 1) := by decide +kernel
theorem dL_law_258 : decode cL_law 258 = .ok (.iadd, 1) := by decide +kernel
theorem dL_law_259 : decode cL_law 259 = .ok (.iaload, 1) := by decide +kernel
theorem dL_law_260 : decode cL_law 260 = .ok (.invokevirtual 33, 3) := by decide +kernel
theorem dL_law_263 : decode cL_law 263 = .ok (.aload_n 2, 1) := by decide +kernel
theorem dL_law_264 : decode cL_law 264 = .ok (.aload_n 0, 1) := by decide +kernel
theorem dL_law_265 : decode cL_law 265 = .ok (.iload_n 3, 1) := by decide +kernel
theorem dL_law_266 : decode cL_law 266 = .ok (.iconst 1, 1) := by decide +kernel
theorem dL_law_267 : decode cL_law 267 = .ok (.iadd, 1) := by decide +kernel
theorem dL_law_268 : decode cL_law 268 = .ok (.iaload, 1) := by decide +kernel
theorem dL_law_269 : decode cL_law 269 = .ok (.aload_n 0, 1) := by decide +kernel
theorem dL_law_270 : decode cL_law 270 = .ok (.iload_n 3, 1) := by decide +kernel
theorem dL_law_271 : decode cL_law 271 = .ok (.iconst 2, 1) := by decide +kernel
theorem dL_law_272 : decode cL_law 272 = .ok (.iadd, 1) := by decide +kernel
theorem dL_law_273 : decode cL_law 273 = .ok (.iaload, 1) := by decide +kernel
theorem dL_law_274 : decode cL_law 274 = .ok (.aload_n 0, 1) := by decide +kernel
theorem dL_law_275 : decode cL_law 275 = .ok (.iload_n 3, 1) := by decide +kernel
theorem dL_law_276 : decode cL_law 276 = .ok (.iconst 3, 1) := by decide +kernel
theorem dL_law_277 : decode cL_law 277 = .ok (.iadd, 1) := by decide +kernel
theorem dL_law_278 : decode cL_law 278 = .ok (.iaload, 1) := by decide +kernel
theorem dL_law_279 : decode cL_law 279 = .ok (.invokevirtual 36, 3) := by decide +kernel
theorem dL_law_282 : decode cL_law 282 = .ok (.if_icmp .eq 515, 3) := by decide +kernel
theorem dL_law_285 : decode cL_law 285 = .ok (.iconst 0, 1) := by decide +kernel
theorem dL_law_286 : decode cL_law 286 = .ok (.ireturn, 1) := by decide +kernel
theorem dL_law_287 : decode cL_law 287 = .ok (.aload_n 1, 1) := by decide +kernel
theorem dL_law_288 : decode cL_law 288 = .ok (.aload_n 0, 1) := by decide +kernel
theorem dL_law_289 : decode cL_law 289 = .ok (.iload_n 3, 1) := by decide +kernel
theorem dL_law_290 : decode cL_law 290 = .ok (.iconst 1, 1) := by decide +kernel
theorem dL_law_291 : decode cL_law 291 = .ok (.iadd, 1) := by decide +kernel
theorem dL_law_292 : decode cL_law 292 = .ok (.iaload, 1) := by decide +kernel
theorem dL_law_293 : decode cL_law 293 = .ok (.aload_n 0, 1) := by decide +kernel
theorem dL_law_294 : decode cL_law 294 = .ok (.iload_n 3, 1) := by decide +kernel
theorem dL_law_295 : decode cL_law 295 = .ok (.iconst 2, 1) := by decide +kernel
theorem dL_law_296 : decode cL_law 296 = .ok (.iadd, 1) := by decide +kernel
theorem dL_law_297 : decode cL_law 297 = .ok (.iaload, 1) := by decide +kernel
theorem dL_law_298 : decode cL_law 298 = .ok (.aload_n 0, 1) := by decide +kernel
theorem dL_law_299 : decode cL_law 299 = .ok (.iload_n 3, 1) := by decide +kernel
theorem dL_law_300 : decode cL_law 300 = .ok (.iconst 3, 1) := by decide +kernel
theorem dL_law_301 : decode cL_law 301 = .ok (.iadd, 1) := by decide +kernel
theorem dL_law_302 : decode cL_law 302 = .ok (.iaload, 1) := by decide +kernel
theorem dL_law_303 : decode cL_law 303 = .ok (.invokevirtual 37, 3) := by decide +kernel
theorem dL_law_306 : decode cL_law 306 = .ok (.aload_n 2, 1) := by decide +kernel
theorem dL_law_307 : decode cL_law 307 = .ok (.aload_n 0, 1) := by decide +kernel
theorem dL_law_308 : decode cL_law 308 = .ok (.iload_n 3, 1) := by decide +kernel
theorem dL_law_309 : decode cL_law 309 = .ok (.iconst 1, 1) := by decide +kernel
theorem dL_law_310 : decode cL_law 310 = .ok (.iadd, 1) := by decide +kernel
theorem dL_law_311 : decode cL_law 311 = .ok (.iaload, 1) := by decide +kernel
theorem dL_law_312 : decode cL_law 312 = .ok (.aload_n 0, 1) := by decide +kernel
theorem dL_law_313 : decode cL_law 313 = .ok (.iload_n 3, 1) := by decide +kernel
theorem dL_law_314 : decode cL_law 314 = .ok (.iconst 2, 1) := by decide +kernel
theorem dL_law_315 : decode cL_law 315 = .ok (.iadd, 1) := by decide +kernel
theorem dL_law_316 : decode cL_law 316 = .ok (.iaload, 1) := by decide +kernel
theorem dL_law_317 : decode cL_law 317 = .ok (.aload_n 0, 1) := by decide +kernel
theorem dL_law_318 : decode cL_law 318 = .ok (.iload_n 3, 1) := by decide +kernel
theorem dL_law_319 : decode cL_law 319 = .ok (.iconst 3, 1) := by decide +kernel
theorem dL_law_320 : decode cL_law 320 = .ok (.iadd, 1) := by decide +kernel
theorem dL_law_321 : decode cL_law 321 = .ok (.iaload, 1) := by decide +kernel
theorem dL_law_322 : decode cL_law 322 = .ok (.invokevirtual 40, 3) := by decide +kernel
theorem dL_law_325 : decode cL_law 325 = .ok (.if_icmp .eq 472, 3) := by decide +kernel
theorem dL_law_328 : decode cL_law 328 = .ok (.iconst 0, 1) := by decide +kernel
theorem dL_law_329 : decode cL_law 329 = .ok (.ireturn, 1) := by decide +kernel
theorem dL_law_330 : decode cL_law 330 = .ok (.aload_n 1, 1) := by decide +kernel
theorem dL_law_331 : decode cL_law 331 = .ok (.aload_n 0, 1) := by decide +kernel
theorem dL_law_332 : decode cL_law 332 = .ok (.iload_n 3, 1) := by decide +kernel
theorem dL_law_333 : decode cL_law 333 = .ok (.iconst 1, 1) := by decide +kernel
theorem dL_law_334 : decode cL_law 334 = .ok (.iadd, 1) := by decide +kernel
theorem dL_law_335 : decode cL_law 335 = .ok (.iaload, 1) := by decide +kernel
theorem dL_law_336 : decode cL_law 336 = .ok (.aload_n 0, 1) := by decide +kernel
theorem dL_law_337 : decode cL_law 337 = .ok (.iload_n 3, 1) := by decide +kernel
theorem dL_law_338 : decode cL_law 338 = .ok (.iconst 2, 1) := by decide +kernel
theorem dL_law_339 : decode cL_law 339 = .ok (.iadd, 1) := by decide +kernel
theorem dL_law_340 : decode cL_law 340 = .ok (.iaload, 1) := by decide +kernel
theorem dL_law_341 : decode cL_law 341 = .ok (.aload_n 0, 1) := by decide +kernel
theorem dL_law_342 : decode cL_law 342 = .ok (.iload_n 3, 1) := by decide +kernel
theorem dL_law_343 : decode cL_law 343 = .ok (.iconst 3, 1) := by decide +kernel
theorem dL_law_344 : decode cL_law 344 = .ok (.iadd, 1) := by decide +kernel
theorem dL_law_345 : decode cL_law 345 = .ok (.iaload, 1) := by decide +kernel
theorem dL_law_346 : decode cL_law 346 = .ok (.invokevirtual 41, 3) := by decide +kernel
theorem dL_law_349 : decode cL_law 349 = .ok (.aload_n 2, 1) := by decide +kernel
theorem dL_law_350 : decode cL_law 350 = .ok (.aload_n 0, 1) := by decide +kernel
theorem dL_law_351 : decode cL_law 351 = .ok (.iload_n 3, 1) := by decide +kernel
theorem dL_law_352 : decode cL_law 352 = .ok (.iconst 1, 1) := by decide +kernel
theorem dL_law_353 : decode cL_law 353 = .ok (.iadd, 1) := by decide +kernel
theorem dL_law_354 : decode cL_law 354 = .ok (.iaload, 1) := by decide +kernel
theorem dL_law_355 : decode cL_law 355 = .ok (.aload_n 0, 1) := by decide +kernel
theorem dL_law_356 : decode cL_law 356 = .ok (.iload_n 3, 1) := by decide +kernel
theorem dL_law_357 : decode cL_law 357 = .ok (.iconst 2, 1) := by decide +kernel
theorem dL_law_358 : decode cL_law 358 = .ok (.iadd, 1) := by decide +kernel
theorem dL_law_359 : decode cL_law 359 = .ok (.iaload, 1) := by decide +kernel
theorem dL_law_360 : decode cL_law 360 = .ok (.aload_n 0, 1) := by decide +kernel
theorem dL_law_361 : decode cL_law 361 = .ok (.iload_n 3, 1) := by decide +kernel
theorem dL_law_362 : decode cL_law 362 = .ok (.iconst 3, 1) := by decide +kernel
theorem dL_law_363 : decode cL_law 363 = .ok (.iadd, 1) := by decide +kernel
theorem dL_law_364 : decode cL_law 364 = .ok (.iaload, 1) := by decide +kernel
theorem dL_law_365 : decode cL_law 365 = .ok (.invokevirtual 44, 3) := by decide +kernel
theorem dL_law_368 : decode cL_law 368 = .ok (.if_icmp .eq 429, 3) := by decide +kernel
theorem dL_law_371 : decode cL_law 371 = .ok (.iconst 0, 1) := by decide +kernel
theorem dL_law_372 : decode cL_law 372 = .ok (.ireturn, 1) := by decide +kernel
theorem dL_law_373 : decode cL_law 373 = .ok (.aload_n 1, 1) := by decide +kernel
theorem dL_law_374 : decode cL_law 374 = .ok (.aload_n 0, 1) := by decide +kernel
theorem dL_law_375 : decode cL_law 375 = .ok (.iload_n 3, 1) := by decide +kernel
theorem dL_law_376 : decode cL_law 376 = .ok (.iconst 1, 1) := by decide +kernel
theorem dL_law_377 : decode cL_law 377 = .ok (.iadd, 1) := by decide +kernel
theorem dL_law_378 : decode cL_law 378 = .ok (.iaload, 1) := by decide +kernel
theorem dL_law_379 : decode cL_law 379 = .ok (.i2c, 1) := by decide +kernel
theorem dL_law_380 : decode cL_law 380 = .ok (.invokevirtual 45, 3) := by decide +kernel
theorem dL_law_383 : decode cL_law 383 = .ok (.aload_n 2, 1) := by decide +kernel
theorem dL_law_384 : decode cL_law 384 = .ok (.aload_n 0, 1) := by decide +kernel
theorem dL_law_385 : decode cL_law 385 = .ok (.iload_n 3, 1) := by decide +kernel
theorem dL_law_386 : decode cL_law 386 = .ok (.iconst 1, 1) := by decide +kernel
theorem dL_law_387 : decode cL_law 387 = .ok (.iadd, 1) := by decide +kernel
theorem dL_law_388 : decode cL_law 388 = .ok (.iaload, 1) := by decide +kernel
theorem dL_law_389 : decode cL_law 389 = .ok (.i2c, 1) := by decide +kernel
theorem dL_law_390 : decode cL_law 390 = .ok (.invokevirtual 49, 3) := by decide +kernel
theorem dL_law_393 : decode cL_law 393 = .ok (.if_icmp .eq 404, 3) := by decide +kernel
theorem dL_law_396 : decode cL_law 396 = .ok (.iconst 0, 1) := by decide +kernel
theorem dL_law_397 : decode cL_law 397 = .ok (.ireturn, 1) := by decide +kernel
theorem dL_law_398 : decode cL_law 398 = .ok (.aload_n 1, 1) := by decide +kernel
theorem dL_law_399 : decode cL_law 399 = .ok (.invokevirtual 50, 3) := by decide +kernel
theorem dL_law_402 : decode cL_law 402 = .ok (.aload_n 2, 1) := by decide +kernel
theorem dL_law_403 : decode cL_law 403 = .ok (.invokevirtual 53, 3) := by decide +kernel
theorem dL_law_406 : decode cL_law 406 = .ok (.if_icmp .eq 391, 3) := by decide +kernel
theorem dL_law_409 : decode cL_law 409 = .ok (.iconst 0, 1) := by decide +kernel
theorem dL_law_410 : decode cL_law 410 = .ok (.ireturn, 1) := by decide +kernel
theorem dL_law_411 : decode cL_law 411 = .ok (.aload_n 1, 1) := by decide +kernel
theorem dL_law_412 : decode cL_law 412 = .ok (.invokevirtual 54, 3) := by decide +kernel
theorem dL_law_415 : decode cL_law 415 = .ok (.aload_n 2, 1) := by decide +kernel
theorem dL_law_416 : decode cL_law 416 = .ok (.invokevirtual 57, 3) := by decide +kernel
theorem dL_law_419 : decode cL_law 419 = .ok (.if_icmp .eq 378, 3) := by decide +kernel
theorem dL_law_422 : decode cL_law 422 = .ok (.iconst 0, 1) := by decide +kernel
theorem dL_law_423 : decode cL_law 423 = .ok (.ireturn, 1) := by decide +kernel
theorem dL_law_424 : decode cL_law 424 = .ok (.aload_n 1, 1) := by decide +kernel
theorem dL_law_425 : decode cL_law 425 = .ok (.invokevirtual 58, 3) := by decide +kernel
theorem dL_law_428 : decode cL_law 428 = .ok (.aload_n 2, 1) := by decide +kernel
theorem dL_law_429 : decode cL_law 429 = .ok (.invokevirtual 61, 3) := by decide +kernel
theorem dL_law_432 : decode cL_law 432 = .ok (.if_icmp .eq 365, 3) := by decide +kernel
theorem dL_law_435 : decode cL_law 435 = .ok (.iconst 0, 1) := by decide +kernel
theorem dL_law_436 : decode cL_law 436 = .ok (.ireturn, 1) := by decide +kernel
theorem dL_law_437 : decode cL_law 437 = .ok (.aload_n 1, 1) := by decide +kernel
theorem dL_law_438 : decode cL_law 438 = .ok (.invokevirtual 62, 3) := by decide +kernel
theorem dL_law_441 : decode cL_law 441 = .ok (.aload_n 2, 1) := by decide +kernel
theorem dL_law_442 : decode cL_law 442 = .ok (.invokevirtual 65, 3) := by decide +kernel
theorem dL_law_445 : decode cL_law 445 = .ok (.if_icmp .eq 352, 3) := by decide +kernel
theorem dL_law_448 : decode cL_law 448 = .ok (.iconst 0, 1) := by decide +kernel
theorem dL_law_449 : decode cL_law 449 = .ok (.ireturn, 1) := by decide +kernel
theorem dL_law_450 : decode cL_law 450 = .ok (.aload_n 1, 1) := by decide +kernel
theorem dL_law_451 : decode cL_law 451 = .ok (.aload_n 0, 1) := by decide +kernel
theorem dL_law_452 : decode cL_law 452 = .ok (.iload_n 3, 1) := by decide +kernel
theorem dL_law_453 : decode cL_law 453 = .ok (.iconst 1, 1) := by decide +kernel
theorem dL_law_454 : decode cL_law 454 = .ok (.iadd, 1) := by decide +kernel
theorem dL_law_455 : decode cL_law 455 = .ok (.iaload, 1) := by decide +kernel
theorem dL_law_456 : decode cL_law 456 = .ok (.aload_n 0, 1) := by decide +kernel
theorem dL_law_457 : decode cL_law 457 = .ok (.iload_n 3, 1) := by decide +kernel
theorem dL_law_458 : decode cL_law 458 = .ok (.iconst 2, 1) := by decide +kernel
theorem dL_law_459 : decode cL_law 459 = .ok (.iadd, 1) := by decide +kernel
theorem dL_law_460 : decode cL_law 460 = .ok (.iaload, 1) := by decide +kernel
theorem dL_law_461 : decode cL_law 461 = .ok (.aload_n 0, 1) := by decide +kernel
theorem dL_law_462 : decode cL_law 462 = .ok (.iload_n 3, 1) := by decide +kernel
theorem dL_law_463 : decode cL_law 463 = .ok (.iconst 3, 1) := by decide +kernel
theorem dL_law_464 : decode cL_law 464 = .ok (.iadd, 1) := by decide +kernel
theorem dL_law_465 : decode cL_law 465 = .ok (.iaload, 1) := by decide +kernel
theorem dL_law_466 : decode cL_law 466 = .ok (.invokevirtual 66, 3) := by decide +kernel
theorem dL_law_469 : decode cL_law 469 = .ok (.aload_n 2, 1) := by decide +kernel
theorem dL_law_470 : decode cL_law 470 = .ok (.aload_n 0, 1) := by decide +kernel
theorem dL_law_471 : decode cL_law 471 = .ok (.iload_n 3, 1) := by decide +kernel
theorem dL_law_472 : decode cL_law 472 = .ok (.iconst 1, 1) := by decide +kernel
theorem dL_law_473 : decode cL_law 473 = .ok (.iadd, 1) := by decide +kernel
theorem dL_law_474 : decode cL_law 474 = .ok (.iaload, 1) := by decide +kernel
theorem dL_law_475 : decode cL_law 475 = .ok (.aload_n 0, 1) := by decide +kernel
theorem dL_law_476 : decode cL_law 476 = .ok (.iload_n 3, 1) := by decide +kernel
theorem dL_law_477 : decode cL_law 477 = .ok (.iconst 2, 1) := by decide +kernel
theorem dL_law_478 : decode cL_law 478 = .ok (.iadd, 1) := by decide +kernel
theorem dL_law_479 : decode cL_law 479 = .ok (.iaload, 1) := by decide +kernel
theorem dL_law_480 : decode cL_law 480 = .ok (.aload_n 0, 1) := by decide +kernel
theorem dL_law_481 : decode cL_law 481 = .ok (.iload_n 3, 1) := by decide +kernel
theorem dL_law_482 : decode cL_law 482 = .ok (.iconst 3, 1) := by decide +kernel
theorem dL_law_483 : decode cL_law 483 = .ok (.iadd, 1) := by decide +kernel
theorem dL_law_484 : decode cL_law 484 = .ok (.iaload, 1) := by decide +kernel
theorem dL_law_485 : decode cL_law 485 = .ok (.invokevirtual 69, 3) := by decide +kernel
theorem dL_law_488 : decode cL_law 488 = .ok (.if_icmp .eq 309, 3) := by decide +kernel
theorem dL_law_491 : decode cL_law 491 = .ok (.iconst 0, 1) := by decide +kernel
theorem dL_law_492 : decode cL_law 492 = .ok (.ireturn, 1) := by decide +kernel
theorem dL_law_493 : decode cL_law 493 = .ok (.aload_n 1, 1) := by decide +kernel
theorem dL_law_494 : decode cL_law 494 = .ok (.aload_n 0, 1) := by decide +kernel
theorem dL_law_495 : decode cL_law 495 = .ok (.iload_n 3, 1) := by decide +kernel
theorem dL_law_496 : decode cL_law 496 = .ok (.iconst 1, 1) := by decide +kernel
theorem dL_law_497 : decode cL_law 497 = .ok (.iadd, 1) := by decide +kernel
theorem dL_law_498 : decode cL_law 498 = .ok (.iaload, 1) := by decide +kernel
theorem dL_law_499 : decode cL_law 499 = .ok (.aload_n 0, 1) := by decide +kernel
theorem dL_law_500 : decode cL_law 500 = .ok (.iload_n 3, 1) := by decide +kernel
theorem dL_law_501 : decode cL_law 501 = .ok (.iconst 2, 1) := by decide +kernel
theorem dL_law_502 : decode cL_law 502 = .ok (.iadd, 1) := by decide +kernel
theorem dL_law_503 : decode cL_law 503 = .ok (.iaload, 1) := by decide +kernel
theorem dL_law_504 : decode cL_law 504 = .ok (.invokevirtual 70, 3) := by decide +kernel
theorem dL_law_507 : decode cL_law 507 = .ok (.aload_n 2, 1) := by decide +kernel
theorem dL_law_508 : decode cL_law 508 = .ok (.aload_n 0, 1) := by decide +kernel
theorem dL_law_509 : decode cL_law 509 = .ok (.iload_n 3, 1) := by decide +kernel
theorem dL_law_510 : decode cL_law 510 = .ok (.iconst 1, 1) := by decide +kernel
theorem dL_law_511 : decode cL_law 511 = .ok (.iadd, 1) := by decide +kernel
theorem dL_law_512 : decode cL_law 512 = .ok (.iaload, 1) := by decide +kernel
theorem dL_law_513 : decode cL_law 513 = .ok (.aload_n 0, 1) := by decide +kernel
theorem dL_law_514 : decode cL_law 514 = .ok (.iload_n 3, 1) := by decide +kernel
theorem dL_law_515 : decode cL_law 515 = .ok (.iconst 2, 1) := by decide +kernel
theorem dL_law_516 : decode cL_law 516 = .ok (.iadd, 1) := by decide +kernel
theorem dL_law_517 : decode cL_law 517 = .ok (.iaload, 1) := by decide +kernel
theorem dL_law_518 : decode cL_law 518 = .ok (.invokevirtual 73, 3) := by decide +kernel
theorem dL_law_521 : decode cL_law 521 = .ok (.if_icmp .eq 276, 3) := by decide +kernel
theorem dL_law_524 : decode cL_law 524 = .ok (.iconst 0, 1) := by decide +kernel
theorem dL_law_525 : decode cL_law 525 = .ok (.ireturn, 1) := by decide +kernel
theorem dL_law_526 : decode cL_law 526 = .ok (.aload_n 1, 1) := by decide +kernel
theorem dL_law_527 : decode cL_law 527 = .ok (.aload_n 0, 1) := by decide +kernel
theorem dL_law_528 : decode cL_law 528 = .ok (.iload_n 3, 1) := by decide +kernel
theorem dL_law_529 : decode cL_law 529 = .ok (.iconst 1, 1) := by decide +kernel
theorem dL_law_530 : decode cL_law 530 = .ok (.iadd, 1) := by decide +kernel
theorem dL_law_531 : decode cL_law 531 = .ok (.iaload, 1) := by decide +kernel
theorem dL_law_532 : decode cL_law 532 = .ok (.aload_n 0, 1) := by decide +kernel
theorem dL_law_533 : decode cL_law 533 = .ok (.iload_n 3, 1) := by decide +kernel
theorem dL_law_534 : decode cL_law 534 = .ok (.iconst 2, 1) := by decide +kernel
theorem dL_law_535 : decode cL_law 535 = .ok (.iadd, 1) := by decide +kernel
theorem dL_law_536 : decode cL_law 536 = .ok (.iaload, 1) := by decide +kernel
theorem dL_law_537 : decode cL_law 537 = .ok (.aload_n 0, 1) := by decide +kernel
theorem dL_law_538 : decode cL_law 538 = .ok (.iload_n 3, 1) := by decide +kernel
theorem dL_law_539 : decode cL_law 539 = .ok (.iconst 3, 1) := by decide +kernel
theorem dL_law_540 : decode cL_law 540 = .ok (.iadd, 1) := by decide +kernel
theorem dL_law_541 : decode cL_law 541 = .ok (.iaload, 1) := by decide +kernel
theorem dL_law_542 : decode cL_law 542 = .ok (.invokevirtual 74, 3) := by decide +kernel
theorem dL_law_545 : decode cL_law 545 = .ok (.aload_n 2, 1) := by decide +kernel
theorem dL_law_546 : decode cL_law 546 = .ok (.aload_n 0, 1) := by decide +kernel
theorem dL_law_547 : decode cL_law 547 = .ok (.iload_n 3, 1) := by decide +kernel
theorem dL_law_548 : decode cL_law 548 = .ok (.iconst 1, 1) := by decide +kernel
theorem dL_law_549 : decode cL_law 549 = .ok (.iadd, 1) := by decide +kernel
theorem dL_law_550 : decode cL_law 550 = .ok (.iaload, 1) := by decide +kernel
theorem dL_law_551 : decode cL_law 551 = .ok (.aload_n 0, 1) := by decide +kernel
theorem dL_law_552 : decode cL_law 552 = .ok (.iload_n 3, 1) := by decide +kernel
theorem dL_law_553 : decode cL_law 553 = .ok (.iconst 2, 1) := by decide +kernel
theorem dL_law_554 : decode cL_law 554 = .ok (.iadd, 1) := by decide +kernel
theorem dL_law_555 : decode cL_law 555 = .ok (.iaload, 1) := by decide +kernel
theorem dL_law_556 : decode cL_law 556 = .ok (.aload_n 0, 1) := by decide +kernel
theorem dL_law_557 : decode cL_law 557 = .ok (.iload_n 3, 1) := by decide +kernel
theorem dL_law_558 : decode cL_law 558 = .ok (.iconst 3, 1) := by decide +kernel
theorem dL_law_559 : decode cL_law 559 = .ok (.iadd, 1) := by decide +kernel
theorem dL_law_560 : decode cL_law 560 = .ok (.iaload, 1) := by decide +kernel
theorem dL_law_561 : decode cL_law 561 = .ok (.invokevirtual 77, 3) := by decide +kernel
theorem dL_law_564 : decode cL_law 564 = .ok (.if_icmp .eq 233, 3) := by decide +kernel
theorem dL_law_567 : decode cL_law 567 = .ok (.iconst 0, 1) := by decide +kernel
theorem dL_law_568 : decode cL_law 568 = .ok (.ireturn, 1) := by decide +kernel
theorem dL_law_569 : decode cL_law 569 = .ok (.aload_n 1, 1) := by decide +kernel
theorem dL_law_570 : decode cL_law 570 = .ok (.aload_n 0, 1) := by decide +kernel
theorem dL_law_571 : decode cL_law 571 = .ok (.iload_n 3, 1) := by decide +kernel
theorem dL_law_572 : decode cL_law 572 = .ok (.iconst 1, 1) := by decide +kernel
theorem dL_law_573 : decode cL_law 573 = .ok (.iadd, 1) := by decide +kernel
theorem dL_law_574 : decode cL_law 574 = .ok (.iaload, 1) := by decide +kernel
theorem dL_law_575 : decode cL_law 575 = .ok (.aload_n 0, 1) := by decide +kernel
theorem dL_law_576 : decode cL_law 576 = .ok (.iload_n 3, 1) := by decide +kernel
theorem dL_law_577 : decode cL_law 577 = .ok (.iconst 2, 1) := by decide +kernel
theorem dL_law_578 : decode cL_law 578 = .ok (.iadd, 1) := by decide +kernel
theorem dL_law_579 : decode cL_law 579 = .ok (.iaload, 1) := by decide +kernel
theorem dL_law_580 : decode cL_law 580 = .ok (.invokevirtual 78, 3) := by decide +kernel
theorem dL_law_583 : decode cL_law 583 = .ok (.aload_n 2, 1) := by decide +kernel
theorem dL_law_584 : decode cL_law 584 = .ok (.aload_n 0, 1) := by decide +kernel
theorem dL_law_585 : decode cL_law 585 = .ok (.iload_n 3, 1) := by decide +kernel
theorem dL_law_586 : decode cL_law 586 = .ok (.iconst 1, 1) := by decide +kernel
theorem dL_law_587 : decode cL_law 587 = .ok (.iadd, 1) := by decide +kernel
theorem dL_law_588 : decode cL_law 588 = .ok (.iaload, 1) := by decide +kernel
theorem dL_law_589 : decode cL_law 589 = .ok (.aload_n 0, 1) := by decide +kernel
theorem dL_law_590 : decode cL_law 590 = .ok (.iload_n 3, 1) := by decide +kernel
theorem dL_law_591 : decode cL_law 591 = .ok (.iconst 2, 1) := by decide +kernel
theorem dL_law_592 : decode cL_law 592 = .ok (.iadd, 1) := by decide +kernel
theorem dL_law_593 : decode cL_law 593 = .ok (.iaload, 1) := by decide +kernel
theorem dL_law_594 : decode cL_law 594 = .ok (.invokevirtual 81, 3) := by decide +kernel
theorem dL_law_597 : decode cL_law 597 = .ok (.if_icmp .eq 200, 3) := by decide +kernel
theorem dL_law_600 : decode cL_law 600 = .ok (.iconst 0, 1) := by decide +kernel
theorem dL_law_601 : decode cL_law 601 = .ok (.ireturn, 1) := by decide +kernel
theorem dL_law_602 : decode cL_law 602 = .ok (.aload_n 1, 1) := by decide +kernel
theorem dL_law_603 : decode cL_law 603 = .ok (.aload_n 0, 1) := by decide +kernel
theorem dL_law_604 : decode cL_law 604 = .ok (.iload_n 3, 1) := by decide +kernel
theorem dL_law_605 : decode cL_law 605 = .ok (.iconst 1, 1) := by decide +kernel
theorem dL_law_606 : decode cL_law 606 = .ok (.iadd, 1) := by decide +kernel
theorem dL_law_607 : decode cL_law 607 = .ok (.iaload, 1) := by decide +kernel
theorem dL_law_608 : decode cL_law 608 = .ok (.aload_n 0, 1) := by decide +kernel
theorem dL_law_609 : decode cL_law 609 = .ok (.iload_n 3, 1) := by decide +kernel
theorem dL_law_610 : decode cL_law 610 = .ok (.iconst 2, 1) := by decide +kernel
theorem dL_law_611 : decode cL_law 611 = .ok (.iadd, 1) := by decide +kernel
theorem dL_law_612 : decode cL_law 612 = .ok (.iaload, 1) := by decide +kernel
theorem dL_law_613 : decode cL_law 613 = .ok (.aload_n 0, 1) := by decide +kernel
theorem dL_law_614 : decode cL_law 614 = .ok (.iload_n 3, 1) := by decide +kernel
theorem dL_law_615 : decode cL_law 615 = .ok (.iconst 3, 1) := by decide +kernel
theorem dL_law_616 : decode cL_law 616 = .ok (.iadd, 1) := by decide +kernel
theorem dL_law_617 : decode cL_law 617 = .ok (.iaload, 1) := by decide +kernel
theorem dL_law_618 : decode cL_law 618 = .ok (.aload_n 0, 1) := by decide +kernel
theorem dL_law_619 : decode cL_law 619 = .ok (.iload_n 3, 1) := by decide +kernel
theorem dL_law_620 : decode cL_law 620 = .ok (.iconst 4, 1) := by decide +kernel
theorem dL_law_621 : decode cL_law 621 = .ok (.iadd, 1) := by decide +kernel
theorem dL_law_622 : decode cL_law 622 = .ok (.iaload, 1) := by decide +kernel
theorem dL_law_623 : decode cL_law 623 = .ok (.aload_n 0, 1) := by decide +kernel
theorem dL_law_624 : decode cL_law 624 = .ok (.iload_n 3, 1) := by decide +kernel
theorem dL_law_625 : decode cL_law 625 = .ok (.iconst 5, 1) := by decide +kernel
theorem dL_law_626 : decode cL_law 626 = .ok (.iadd, 1) := by decide +kernel
theorem dL_law_627 : decode cL_law 627 = .ok (.iaload, 1) := by decide +kernel
theorem dL_law_628 : decode cL_law 628 = .ok (.invokevirtual 82, 3) := by decide +kernel
theorem dL_law_631 : decode cL_law 631 = .ok (.aload_n 2, 1) := by decide +kernel
theorem dL_law_632 : decode cL_law 632 = .ok (.aload_n 0, 1) := by decide +kernel
theorem dL_law_633 : decode cL_law 633 = .ok (.iload_n 3, 1) := by decide +kernel
theorem dL_law_634 : decode cL_law 634 = .ok (.iconst 1, 1) := by decide +kernel
theorem dL_law_635 : decode cL_law 635 = .ok (.iadd, 1) := by decide +kernel
theorem dL_law_636 : decode cL_law 636 = .ok (.iaload, 1) := by decide +kernel
theorem dL_law_637 : decode cL_law 637 = .ok (.aload_n 0, 1) := by decide +kernel
theorem dL_law_638 : decode cL_law 638 = .ok (.iload_n 3, 1) := by decide +kernel
theorem dL_law_639 : decode cL_law 639 = .ok (.iconst 2, 1) := by decide +kernel
theorem dL_law_640 : decode cL_law 640 = .ok (.iadd, 1) := by decide +kernel
theorem dL_law_641 : decode cL_law 641 = .ok (.iaload, 1) := by decide +kernel
theorem dL_law_642 : decode cL_law 642 = .ok (.aload_n 0, 1) := by decide +kernel
theorem dL_law_643 : decode cL_law 643 = .ok (.iload_n 3, 1) := by decide +kernel
theorem dL_law_644 : decode cL_law 644 = .ok (.iconst 3, 1) := by decide +kernel
theorem dL_law_645 : decode cL_law 645 = .ok (.iadd, 1) := by decide +kernel
theorem dL_law_646 : decode cL_law 646 = .ok (.iaload, 1) := by decide +kernel
theorem dL_law_647 : decode cL_law 647 = .ok (.aload_n 0, 1) := by decide +kernel
theorem dL_law_648 : decode cL_law 648 = .ok (.iload_n 3, 1) := by decide +kernel
theorem dL_law_649 : decode cL_law 649 = .ok (.iconst 4, 1) := by decide +kernel
theorem dL_law_650 : decode cL_law 650 = .ok (.iadd, 1) := by decide +kernel
theorem dL_law_651 : decode cL_law 651 = .ok (.iaload, 1) := by decide +kernel
theorem dL_law_652 : decode cL_law 652 = .ok (.aload_n 0, 1) := by decide +kernel
theorem dL_law_653 : decode cL_law 653 = .ok (.iload_n 3, 1) := by decide +kernel
theorem dL_law_654 : decode cL_law 654 = .ok (.iconst 5, 1) := by decide +kernel
theorem dL_law_655 : decode cL_law 655 = .ok (.iadd, 1) := by decide +kernel
theorem dL_law_656 : decode cL_law 656 = .ok (.iaload, 1) := by decide +kernel
theorem dL_law_657 : decode cL_law 657 = .ok (.invokevirtual 86, 3) := by decide +kernel
theorem dL_law_660 : decode cL_law 660 = .ok (.if_icmp .eq 137, 3) := by decide +kernel
theorem dL_law_663 : decode cL_law 663 = .ok (.iconst 0, 1) := by decide +kernel
theorem dL_law_664 : decode cL_law 664 = .ok (.ireturn, 1) := by decide +kernel
theorem dL_law_665 : decode cL_law 665 = .ok (.aload_n 1, 1) := by decide +kernel
theorem dL_law_666 : decode cL_law 666 = .ok (.aload_n 0, 1) := by decide +kernel
theorem dL_law_667 : decode cL_law 667 = .ok (.iload_n 3, 1) := by decide +kernel
theorem dL_law_668 : decode cL_law 668 = .ok (.iconst 1, 1) := by decide +kernel
theorem dL_law_669 : decode cL_law 669 = .ok (.iadd, 1) := by decide +kernel
theorem dL_law_670 : decode cL_law 670 = .ok (.iaload, 1) := by decide +kernel
theorem dL_law_671 : decode cL_law 671 = .ok (.aload_n 0, 1) := by decide +kernel
theorem dL_law_672 : decode cL_law 672 = .ok (.iload_n 3, 1) := by decide +kernel
theorem dL_law_673 : decode cL_law 673 = .ok (.iconst 2, 1) := by decide +kernel
theorem dL_law_674 : decode cL_law 674 = .ok (.iadd, 1) := by decide +kernel
theorem dL_law_675 : decode cL_law 675 = .ok (.iaload, 1) := by decide +kernel
theorem dL_law_676 : decode cL_law 676 = .ok (.aload_n 0, 1) := by decide +kernel
theorem dL_law_677 : decode cL_law 677 = .ok (.iload_n 3, 1) := by decide +kernel
theorem dL_law_678 : decode cL_law 678 = .ok (.iconst 3, 1) := by decide +kernel
theorem dL_law_679 : decode cL_law 679 = .ok (.iadd, 1) := by decide +kernel
theorem dL_law_680 : decode cL_law 680 = .ok (.iaload, 1) := by decide +kernel
theorem dL_law_681 : decode cL_law 681 = .ok (.invokevirtual 87, 3) := by decide +kernel
theorem dL_law_684 : decode cL_law 684 = .ok (.aload_n 2, 1) := by decide +kernel
theorem dL_law_685 : decode cL_law 685 = .ok (.aload_n 0, 1) := by decide +kernel
theorem dL_law_686 : decode cL_law 686 = .ok (.iload_n 3, 1) := by decide +kernel
theorem dL_law_687 : decode cL_law 687 = .ok (.iconst 1, 1) := by decide +kernel
theorem dL_law_688 : decode cL_law 688 = .ok (.iadd, 1) := by decide +kernel
theorem dL_law_689 : decode cL_law 689 = .ok (.iaload, 1) := by decide +kernel
theorem dL_law_690 : decode cL_law 690 = .ok (.aload_n 0, 1) := by decide +kernel
theorem dL_law_691 : decode cL_law 691 = .ok (.iload_n 3, 1) := by decide +kernel
theorem dL_law_692 : decode cL_law 692 = .ok (.iconst 2, 1) := by decide +kernel
theorem dL_law_693 : decode cL_law 693 = .ok (.iadd, 1) := by decide +kernel
theorem dL_law_694 : decode cL_law 694 = .ok (.iaload, 1) := by decide +kernel
theorem dL_law_695 : decode cL_law 695 = .ok (.aload_n 0, 1) := by decide +kernel
theorem dL_law_696 : decode cL_law 696 = .ok (.iload_n 3, 1) := by decide +kernel
theorem dL_law_697 : decode cL_law 697 = .ok (.iconst 3, 1) := by decide +kernel
theorem dL_law_698 : decode cL_law 698 = .ok (.iadd, 1) := by decide +kernel
theorem dL_law_699 : decode cL_law 699 = .ok (.iaload, 1) := by decide +kernel
theorem dL_law_700 : decode cL_law 700 = .ok (.invokevirtual 90, 3) := by decide +kernel
theorem dL_law_703 : decode cL_law 703 = .ok (.if_icmp .eq 94, 3) := by decide +kernel
theorem dL_law_706 : decode cL_law 706 = .ok (.iconst 0, 1) := by decide +kernel
theorem dL_law_707 : decode cL_law 707 = .ok (.ireturn, 1) := by decide +kernel
theorem dL_law_708 : decode cL_law 708 = .ok (.aload_n 1, 1) := by decide +kernel
theorem dL_law_709 : decode cL_law 709 = .ok (.invokevirtual 91, 3) := by decide +kernel
theorem dL_law_712 : decode cL_law 712 = .ok (.aload_n 2, 1) := by decide +kernel
theorem dL_law_713 : decode cL_law 713 = .ok (.invokevirtual 94, 3) := by decide +kernel
theorem dL_law_716 : decode cL_law 716 = .ok (.if_icmp .eq 81, 3) := by decide +kernel
theorem dL_law_719 : decode cL_law 719 = .ok (.iconst 0, 1) := by decide +kernel
theorem dL_law_720 : decode cL_law 720 = .ok (.ireturn, 1) := by decide +kernel
theorem dL_law_721 : decode cL_law 721 = .ok (.aload_n 1, 1) := by decide +kernel
theorem dL_law_722 : decode cL_law 722 = .ok (.aload_n 0, 1) := by decide +kernel
theorem dL_law_723 : decode cL_law 723 = .ok (.iload_n 3, 1) := by decide +kernel
theorem dL_law_724 : decode cL_law 724 = .ok (.iconst 1, 1) := by decide +kernel
theorem dL_law_725 : decode cL_law 725 = .ok (.iadd, 1) := by decide +kernel
theorem dL_law_726 : decode cL_law 726 = .ok (.iaload, 1) := by decide +kernel
theorem dL_law_727 : decode cL_law 727 = .ok (.invokevirtual 95, 3) := by decide +kernel
theorem dL_law_730 : decode cL_law 730 = .ok (.f2d, 1) := by decide +kernel
theorem dL_law_731 : decode cL_law 731 = .ok (.dstore 4, 2) := by decide +kernel
theorem dL_law_733 : decode cL_law 733 = .ok (.aload_n 2, 1) := by decide +kernel
theorem dL_law_734 : decode cL_law 734 = .ok (.aload_n 0, 1) := by decide +kernel
theorem dL_law_735 : decode cL_law 735 = .ok (.iload_n 3, 1) := by decide +kernel
theorem dL_law_736 : decode cL_law 736 = .ok (.iconst 1, 1) := by decide +kernel
theorem dL_law_737 : decode cL_law 737 = .ok (.iadd, 1) := by decide +kernel
theorem dL_law_738 : decode cL_law 738 = .ok (.iaload, 1) := by decide +kernel
theorem dL_law_739 : decode cL_law 739 = .ok (.invokevirtual 99, 3) := by decide +kernel
theorem dL_law_742 : decode cL_law 742 = .ok (.f2d, 1) := by decide +kernel
theorem dL_law_743 : decode cL_law 743 = .ok (.dstore 6, 2) := by decide +kernel
theorem dL_law_745 : decode cL_law 745 = .ok (.dload 4, 2) := by decide +kernel
theorem dL_law_747 : decode cL_law 747 = .ok (.dload 6, 2) := by decide +kernel
theorem dL_law_749 : decode cL_law 749 = .ok (.dcmp .l, 1) := by decide +kernel
theorem dL_law_750 : decode cL_law 750 = .ok (.ifCond .eq 21, 3) := by decide +kernel
theorem dL_law_753 : decode cL_law 753 = .ok (.dload 4, 2) := by decide +kernel
theorem dL_law_755 : decode cL_law 755 = .ok (.dload 4, 2) := by decide +kernel
theorem dL_law_757 : decode cL_law 757 = .ok (.dcmp .l, 1) := by decide +kernel
theorem dL_law_758 : decode cL_law 758 = .ok (.ifCond .eq 11, 3) := by decide +kernel
theorem dL_law_761 : decode cL_law 761 = .ok (.dload 6, 2) := by decide +kernel
theorem dL_law_763 : decode cL_law 763 = .ok (.dload 6, 2) := by decide +kernel
theorem dL_law_765 : decode cL_law 765 = .ok (.dcmp .l, 1) := by decide +kernel
theorem dL_law_766 : decode cL_law 766 = .ok (.ifCond .ne 5, 3) := by decide +kernel
theorem dL_law_769 : decode cL_law 769 = .ok (.iconst 0, 1) := by decide +kernel
theorem dL_law_770 : decode cL_law 770 = .ok (.ireturn, 1) := by decide +kernel
theorem dL_law_771 : decode cL_law 771 = .ok (.goto 26, 3) := by decide +kernel
theorem dL_law_774 : decode cL_law 774 = .ok (.aload_n 1, 1) := by decide +kernel
theorem dL_law_775 : decode cL_law 775 = .ok (.aload_n 0, 1) := by decide +kernel
theorem dL_law_776 : decode cL_law 776 = .ok (.iload_n 3, 1) := by decide +kernel
theorem dL_law_777 : decode cL_law 777 = .ok (.iconst 1, 1) := by decide +kernel
theorem dL_law_778 : decode cL_law 778 = .ok (.iadd, 1) := by decide +kernel
theorem dL_law_779 : decode cL_law 779 = .ok (.iaload, 1) := by decide +kernel
theorem dL_law_780 : decode cL_law 780 = .ok (.invokevirtual 100, 3) := by decide +kernel
theorem dL_law_783 : decode cL_law 783 = .ok (.aload_n 2, 1) := by decide +kernel
theorem dL_law_784 : decode cL_law 784 = .ok (.aload_n 0, 1) := by decide +kernel
theorem dL_law_785 : decode cL_law 785 = .ok (.iload_n 3, 1) := by decide +kernel
theorem dL_law_786 : decode cL_law 786 = .ok (.iconst 1, 1) := by decide +kernel
theorem dL_law_787 : decode cL_law 787 = .ok (.iadd, 1) := by decide +kernel
theorem dL_law_788 : decode cL_law 788 = .ok (.iaload, 1) := by decide +kernel
theorem dL_law_789 : decode cL_law 789 = .ok (.invokevirtual 103, 3) := by decide +kernel
theorem dL_law_792 : decode cL_law 792 = .ok (.if_icmp .eq 5, 3) := by decide +kernel
theorem dL_law_795 : decode cL_law 795 = .ok (.iconst 0, 1) := by decide +kernel
theorem dL_law_796 : decode cL_law 796 = .ok (.ireturn, 1) := by decide +kernel
theorem dL_law_797 : decode cL_law 797 = .ok (.iinc 3 6, 3) := by decide +kernel
theorem dL_law_800 : decode cL_law 800 = .ok (.goto (-782), 3) := by decide +kernel
theorem dL_law_803 : decode cL_law 803 = .ok (.iconst 1, 1) := by decide +kernel
theorem dL_law_804 : decode cL_law 804 = .ok (.ireturn, 1) := by decide +kernel


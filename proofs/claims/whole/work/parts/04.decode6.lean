theorem dX6_onWay_32 : decode cX6_onWay 32 = .ok (.iload_n 3, 1) := by decide +kernel
theorem dX6_onWay_33 : decode cX6_onWay 33 = .ok (.invokevirtual 62, 3) := by decide +kernel
theorem dX6_onWay_36 : decode cX6_onWay 36 = .ok (.ifCond .ne 19, 3) := by decide +kernel
theorem dX6_onWay_39 : decode cX6_onWay 39 = .ok (.aload_n 0, 1) := by decide +kernel
theorem dX6_onWay_40 : decode cX6_onWay 40 = .ok (.iload 5, 2) := by decide +kernel
theorem dX6_onWay_42 : decode cX6_onWay 42 = .ok (.iload_n 2, 1) := by decide +kernel
theorem dX6_onWay_43 : decode cX6_onWay 43 = .ok (.iload_n 3, 1) := by decide +kernel
theorem dX6_onWay_44 : decode cX6_onWay 44 = .ok (.invokevirtual 225, 3) := by decide +kernel
theorem dX6_onWay_47 : decode cX6_onWay 47 = .ok (.istore 5, 2) := by decide +kernel
theorem dX6_onWay_49 : decode cX6_onWay 49 = .ok (.iinc 6 1, 3) := by decide +kernel
theorem dX6_onWay_52 : decode cX6_onWay 52 = .ok (.goto (-31), 3) := by decide +kernel
theorem dX6_onWay_55 : decode cX6_onWay 55 = .ok (.iload 6, 2) := by decide +kernel
theorem dX6_onWay_57 : decode cX6_onWay 57 = .ok (.iload 4, 2) := by decide +kernel
theorem dX6_onWay_59 : decode cX6_onWay 59 = .ok (.if_icmp .ne 8, 3) := by decide +kernel
theorem dX6_onWay_62 : decode cX6_onWay 62 = .ok (.iload 5, 2) := by decide +kernel
theorem dX6_onWay_64 : decode cX6_onWay 64 = .ok (.goto 5, 3) := by decide +kernel
theorem dX6_onWay_67 : decode cX6_onWay 67 = .ok (.bipush (-5), 2) := by decide +kernel
theorem dX6_onWay_69 : decode cX6_onWay 69 = .ok (.ireturn, 1) := by decide +kernel
set_option maxRecDepth 20000 in
theorem ggX6_way_X6_isHere : GoodIn wsX6_way wsX6_isHere := goodIn_r _ [6, 7, 8, 5, 9, 10, 11, 12, 13, 14, 71, 72, 73, 74, 75, 76, 77, 78, 79, 80, 81, 82, 83, 84] (by decide +kernel) (by decide +kernel)
set_option maxRecDepth 20000 in
theorem gX6_way_X6_isHere : GoodIn wsX6_way (wsV RX6 122 RX6 yX6_isHere wsX6_isHere) := goodIn_app (goodIn_of _ (by decide +kernel)) ggX6_way_X6_isHere
set_option maxRecDepth 20000 in
theorem ggX6_way_X6_isPoint : GoodIn wsX6_way wsX6_isPoint := goodIn_r _ [17, 7, 8, 5, 9] (by decide +kernel) (by decide +kernel)
set_option maxRecDepth 20000 in
theorem gX6_way_X6_isPoint : GoodIn wsX6_way (va_wsS RX6 94 yX6_isPoint wsX6_isPoint) := goodIn_app (goodIn_of _ (by decide +kernel)) ggX6_way_X6_isPoint
set_option maxRecDepth 20000 in
theorem ggX6_way_X6_in : GoodIn wsX6_way wsX6_in := goodIn_r _ [9] (by decide +kernel) (by decide +kernel)
set_option maxRecDepth 20000 in
theorem gX6_way_X6_in : GoodIn wsX6_way (va_wsS RX6 35 yX6_in wsX6_in) := goodIn_app (goodIn_of _ (by decide +kernel)) ggX6_way_X6_in
set_option maxRecDepth 20000 in
theorem ggX6_way_X6_onWay : GoodIn wsX6_way wsX6_onWay := goodIn_r _ [21, 10, 11, 12, 5, 13, 14, 22, 23, 24, 25, 26, 27, 28, 29, 30, 31, 32, 33, 34, 35, 36, 37, 38, 39, 40, 7, 8, 9, 41, 42, 43, 44, 45, 46, 47, 48, 49, 50, 51, 52, 53, 54, 55, 56, 57, 58, 59, 60, 61, 62, 63, 64, 65, 66, 67, 68, 69, 70, 71, 72, 73, 74, 75, 76, 77, 78, 79, 80, 81, 82, 83, 84] (by decide +kernel) (by decide +kernel)
set_option maxRecDepth 20000 in
theorem gX6_way_X6_onWay : GoodIn wsX6_way (wsV RX6 228 RX6 yX6_onWay wsX6_onWay) := goodIn_app (goodIn_of _ (by decide +kernel)) ggX6_way_X6_onWay
set_option maxRecDepth 20000 in
theorem ggX6_way_X6_ofPlot : GoodIn wsX6_way wsX6_ofPlot := goodIn_r _ [33, 14, 71, 72, 73, 74, 75, 76, 77, 78, 79, 80, 81, 82, 83, 84] (by decide +kernel) (by decide +kernel)
set_option maxRecDepth 20000 in
theorem gX6_way_X6_ofPlot : GoodIn wsX6_way (wsV RX6 46 RX6 yX6_ofPlot wsX6_ofPlot) := goodIn_app (goodIn_of _ (by decide +kernel)) ggX6_way_X6_ofPlot
theorem dX6_way_0 : decode cX6_way 0 = .ok (.aload_n 0, 1) := by decide +kernel
theorem dX6_way_1 : decode cX6_way 1 = .ok (.iconst 0, 1) := by decide +kernel
theorem dX6_way_2 : decode cX6_way 2 = .ok (.putfield 31, 3) := by decide +kernel
theorem dX6_way_5 : decode cX6_way 5 = .ok (.aload_n 0, 1) := by decide +kernel
theorem dX6_way_6 : decode cX6_way 6 = .ok (.iload_n 1, 1) := by decide +kernel
theorem dX6_way_7 : decode cX6_way 7 = .ok (.invokevirtual 122, 3) := by decide +kernel
theorem dX6_way_10 : decode cX6_way 10 = .ok (.ifCond .eq 11, 3) := by decide +kernel
theorem dX6_way_13 : decode cX6_way 13 = .ok (.iload_n 2, 1) := by decide +kernel
theorem dX6_way_14 : decode cX6_way 14 = .ok (.iload_n 3, 1) := by decide +kernel
theorem dX6_way_15 : decode cX6_way 15 = .ok (.invokestatic 94, 3) := by decide +kernel
theorem dX6_way_18 : decode cX6_way 18 = .ok (.ifCond .ne 5, 3) := by decide +kernel
theorem dX6_way_21 : decode cX6_way 21 = .ok (.iconst (-1), 1) := by decide +kernel
theorem dX6_way_22 : decode cX6_way 22 = .ok (.ireturn, 1) := by decide +kernel
theorem dX6_way_23 : decode cX6_way 23 = .ok (.iload 4, 2) := by decide +kernel
theorem dX6_way_25 : decode cX6_way 25 = .ok (.ifCond .lt 13, 3) := by decide +kernel
theorem dX6_way_28 : decode cX6_way 28 = .ok (.iload 5, 2) := by decide +kernel
theorem dX6_way_30 : decode cX6_way 30 = .ok (.iconst 0, 1) := by decide +kernel
theorem dX6_way_31 : decode cX6_way 31 = .ok (.iconst 2, 1) := by decide +kernel
theorem dX6_way_32 : decode cX6_way 32 = .ok (.invokestatic 35, 3) := by decide +kernel
theorem dX6_way_35 : decode cX6_way 35 = .ok (.ifCond .ne 6, 3) := by decide +kernel
theorem dX6_way_38 : decode cX6_way 38 = .ok (.bipush (-2), 2) := by decide +kernel
theorem dX6_way_40 : decode cX6_way 40 = .ok (.ireturn, 1) := by decide +kernel
theorem dX6_way_41 : decode cX6_way 41 = .ok (.aload_n 0, 1) := by decide +kernel
theorem dX6_way_42 : decode cX6_way 42 = .ok (.iload_n 1, 1) := by decide +kernel
theorem dX6_way_43 : decode cX6_way 43 = .ok (.iload_n 2, 1) := by decide +kernel
theorem dX6_way_44 : decode cX6_way 44 = .ok (.iload_n 3, 1) := by decide +kernel
theorem dX6_way_45 : decode cX6_way 45 = .ok (.iload 4, 2) := by decide +kernel
theorem dX6_way_47 : decode cX6_way 47 = .ok (.invokevirtual 228, 3) := by decide +kernel
theorem dX6_way_50 : decode cX6_way 50 = .ok (.istore 6, 2) := by decide +kernel
theorem dX6_way_52 : decode cX6_way 52 = .ok (.iload 6, 2) := by decide +kernel
theorem dX6_way_54 : decode cX6_way 54 = .ok (.bipush (-5), 2) := by decide +kernel
theorem dX6_way_56 : decode cX6_way 56 = .ok (.if_icmp .ne 8, 3) := by decide +kernel
theorem dX6_way_59 : decode cX6_way 59 = .ok (.bipush (-5), 2) := by decide +kernel
theorem dX6_way_61 : decode cX6_way 61 = .ok (.goto 32, 3) := by decide +kernel
theorem dX6_way_64 : decode cX6_way 64 = .ok (.iload 5, 2) := by decide +kernel
theorem dX6_way_66 : decode cX6_way 66 = .ok (.ifCond .ne 15, 3) := by decide +kernel
theorem dX6_way_69 : decode cX6_way 69 = .ok (.aload_n 0, 1) := by decide +kernel
theorem dX6_way_70 : decode cX6_way 70 = .ok (.iload 6, 2) := by decide +kernel
theorem dX6_way_72 : decode cX6_way 72 = .ok (.iconst 3, 1) := by decide +kernel
theorem dX6_way_73 : decode cX6_way 73 = .ok (.invokevirtual 46, 3) := by decide +kernel
theorem dX6_way_76 : decode cX6_way 76 = .ok (.iconst 1, 1) := by decide +kernel
theorem dX6_way_77 : decode cX6_way 77 = .ok (.isub, 1) := by decide +kernel
theorem dX6_way_78 : decode cX6_way 78 = .ok (.goto 15, 3) := by decide +kernel
theorem dX6_way_81 : decode cX6_way 81 = .ok (.aload_n 0, 1) := by decide +kernel
theorem dX6_way_82 : decode cX6_way 82 = .ok (.iload 6, 2) := by decide +kernel
theorem dX6_way_84 : decode cX6_way 84 = .ok (.iconst 1, 1) := by decide +kernel
theorem dX6_way_85 : decode cX6_way 85 = .ok (.iload 5, 2) := by decide +kernel
theorem dX6_way_87 : decode cX6_way 87 = .ok (.iadd, 1) := by decide +kernel
theorem dX6_way_88 : decode cX6_way 88 = .ok (.iconst 1, 1) := by decide +kernel
theorem dX6_way_89 : decode cX6_way 89 = .ok (.isub, 1) := by decide +kernel
theorem dX6_way_90 : decode cX6_way 90 = .ok (.invokevirtual 46, 3) := by decide +kernel
theorem dX6_way_93 : decode cX6_way 93 = .ok (.ireturn, 1) := by decide +kernel
set_option maxRecDepth 20000 in
theorem ggX6_would_X6_isPoint : GoodIn wsX6_would wsX6_isPoint := goodIn_r _ [5, 6, 7, 4, 8] (by decide +kernel) (by decide +kernel)
set_option maxRecDepth 20000 in
theorem gX6_would_X6_isPoint : GoodIn wsX6_would (va_wsS RX6 94 yX6_isPoint wsX6_isPoint) := goodIn_app (goodIn_of _ (by decide +kernel)) ggX6_would_X6_isPoint
set_option maxRecDepth 20000 in
theorem ggX6_would_X6_in : GoodIn wsX6_would wsX6_in := goodIn_r _ [8] (by decide +kernel) (by decide +kernel)
set_option maxRecDepth 20000 in
theorem gX6_would_X6_in : GoodIn wsX6_would (va_wsS RX6 35 yX6_in wsX6_in) := goodIn_app (goodIn_of _ (by decide +kernel)) ggX6_would_X6_in
set_option maxRecDepth 20000 in
theorem ggX6_would_X6_refuses : GoodIn wsX6_would wsX6_refuses := goodIn_r _ [12, 13, 14, 15, 16, 4, 17, 18, 19, 20, 21, 22, 23, 24, 25, 26, 27, 28, 29, 30, 31, 32, 6, 7, 8, 33, 34, 35, 36, 37, 38, 39, 40, 41, 42, 43, 81, 82, 83, 84, 85, 86, 87, 88, 89, 90, 91, 92, 93, 94] (by decide +kernel) (by decide +kernel)
set_option maxRecDepth 20000 in
theorem gX6_would_X6_refuses : GoodIn wsX6_would (wsV RX6 97 RX6 yX6_refuses wsX6_refuses) := goodIn_app (goodIn_of _ (by decide +kernel)) ggX6_would_X6_refuses
set_option maxRecDepth 20000 in
theorem ggX6_would_X6_plotAt : GoodIn wsX6_would wsX6_plotAt := goodIn_r _ [17, 18, 19, 20, 4, 21, 22, 23, 24, 25, 13, 26, 27, 28, 29, 30, 31, 32, 6, 7, 8, 33, 34, 35, 36, 37, 38, 39, 81, 82, 83, 84, 85, 86, 87, 88, 89, 90, 91, 92, 93, 94] (by decide +kernel) (by decide +kernel)
set_option maxRecDepth 20000 in
theorem gX6_would_X6_plotAt : GoodIn wsX6_would (wsV RX6 83 RX6 yX6_plotAt wsX6_plotAt) := goodIn_app (goodIn_of _ (by decide +kernel)) ggX6_would_X6_plotAt
set_option maxRecDepth 20000 in
theorem ggX6_would_X6_ofPlot : GoodIn wsX6_would wsX6_ofPlot := goodIn_r _ [25, 13, 81, 82, 83, 84, 85, 86, 87, 88, 89, 90, 91, 92, 93, 94] (by decide +kernel) (by decide +kernel)
set_option maxRecDepth 20000 in
theorem gX6_would_X6_ofPlot : GoodIn wsX6_would (wsV RX6 46 RX6 yX6_ofPlot wsX6_ofPlot) := goodIn_app (goodIn_of _ (by decide +kernel)) ggX6_would_X6_ofPlot
set_option maxRecDepth 20000 in
theorem ggX6_would_X6_putAside : GoodIn wsX6_would wsX6_putAside := goodIn_r _ [47, 48, 13, 81, 82, 83, 84, 85, 86, 87, 88, 89, 90, 91, 92, 93, 94] (by decide +kernel) (by decide +kernel)
set_option maxRecDepth 20000 in
theorem gX6_would_X6_putAside : GoodIn wsX6_would (wsV RX6 110 RX6 yX6_putAside wsX6_putAside) := goodIn_app (goodIn_of _ (by decide +kernel)) ggX6_would_X6_putAside
set_option maxRecDepth 20000 in
theorem ggX6_would_X6_comes : GoodIn wsX6_would wsX6_comes := goodIn_r _ [52, 13, 53, 54, 55, 4, 56, 14, 15, 16, 17, 18, 19, 20, 21, 22, 23, 24, 25, 26, 27, 28, 29, 30, 31, 32, 6, 7, 8, 33, 34, 35, 36, 37, 38, 39, 57, 58, 59, 60, 61, 62, 63, 64, 40, 41, 42, 43, 81, 82, 83, 84, 85, 86, 87, 88, 89, 90, 91, 92, 93, 94] (by decide +kernel) (by decide +kernel)
set_option maxRecDepth 20000 in
theorem gX6_would_X6_comes : GoodIn wsX6_would (wsV RX6 103 RX6 yX6_comes wsX6_comes) := goodIn_app (goodIn_of _ (by decide +kernel)) ggX6_would_X6_comes
set_option maxRecDepth 20000 in
theorem ggX6_would_X6_songsOf : GoodIn wsX6_would wsX6_songsOf := goodIn_r _ [68, 13, 69, 70, 71, 4, 72, 73, 74, 75, 76, 14, 15, 16, 17, 18, 19, 20, 21, 22, 23, 24, 25, 26, 27, 28, 29, 30, 31, 32, 6, 7, 8, 33, 34, 35, 36, 37, 38, 39, 81, 82, 83, 84, 85, 86, 87, 88, 89, 90, 91, 92, 93, 94] (by decide +kernel) (by decide +kernel)
set_option maxRecDepth 20000 in
theorem gX6_would_X6_songsOf : GoodIn wsX6_would (wsV RX6 199 RX6 yX6_songsOf wsX6_songsOf) := goodIn_app (goodIn_of _ (by decide +kernel)) ggX6_would_X6_songsOf
set_option maxRecDepth 20000 in
theorem ggX6_would_X6_takeBack : GoodIn wsX6_would wsX6_takeBack := goodIn_r _ [80, 13, 48, 81, 82, 83, 84, 85, 86, 87, 88, 89, 90, 91, 92, 93, 94] (by decide +kernel) (by decide +kernel)
set_option maxRecDepth 20000 in
theorem gX6_would_X6_takeBack : GoodIn wsX6_would (wsV RX6 116 RX6 yX6_takeBack wsX6_takeBack) := goodIn_app (goodIn_of _ (by decide +kernel)) ggX6_would_X6_takeBack
theorem dX6_would_0 : decode cX6_would 0 = .ok (.aload_n 0, 1) := by decide +kernel
theorem dX6_would_1 : decode cX6_would 1 = .ok (.iconst 0, 1) := by decide +kernel
theorem dX6_would_2 : decode cX6_would 2 = .ok (.putfield 31, 3) := by decide +kernel
theorem dX6_would_5 : decode cX6_would 5 = .ok (.iload_n 1, 1) := by decide +kernel
theorem dX6_would_6 : decode cX6_would 6 = .ok (.iload_n 2, 1) := by decide +kernel
theorem dX6_would_7 : decode cX6_would 7 = .ok (.invokestatic 94, 3) := by decide +kernel
theorem dX6_would_10 : decode cX6_would 10 = .ok (.ifCond .ne 5, 3) := by decide +kernel
theorem dX6_would_13 : decode cX6_would 13 = .ok (.iconst (-1), 1) := by decide +kernel
theorem dX6_would_14 : decode cX6_would 14 = .ok (.ireturn, 1) := by decide +kernel
theorem dX6_would_15 : decode cX6_would 15 = .ok (.iload_n 3, 1) := by decide +kernel
theorem dX6_would_16 : decode cX6_would 16 = .ok (.iconst 0, 1) := by decide +kernel
theorem dX6_would_17 : decode cX6_would 17 = .ok (.iconst 2, 1) := by decide +kernel
theorem dX6_would_18 : decode cX6_would 18 = .ok (.invokestatic 35, 3) := by decide +kernel
theorem dX6_would_21 : decode cX6_would 21 = .ok (.ifCond .ne 6, 3) := by decide +kernel
theorem dX6_would_24 : decode cX6_would 24 = .ok (.bipush (-2), 2) := by decide +kernel
theorem dX6_would_26 : decode cX6_would 26 = .ok (.ireturn, 1) := by decide +kernel
theorem dX6_would_27 : decode cX6_would 27 = .ok (.aload_n 0, 1) := by decide +kernel
theorem dX6_would_28 : decode cX6_would 28 = .ok (.iload_n 1, 1) := by decide +kernel
theorem dX6_would_29 : decode cX6_would 29 = .ok (.iload_n 2, 1) := by decide +kernel
theorem dX6_would_30 : decode cX6_would 30 = .ok (.invokevirtual 97, 3) := by decide +kernel
theorem dX6_would_33 : decode cX6_would 33 = .ok (.istore 4, 2) := by decide +kernel
theorem dX6_would_35 : decode cX6_would 35 = .ok (.iload 4, 2) := by decide +kernel
theorem dX6_would_37 : decode cX6_would 37 = .ok (.ifCond .eq 6, 3) := by decide +kernel
theorem dX6_would_40 : decode cX6_would 40 = .ok (.iload 4, 2) := by decide +kernel
theorem dX6_would_42 : decode cX6_would 42 = .ok (.ireturn, 1) := by decide +kernel
theorem dX6_would_43 : decode cX6_would 43 = .ok (.aload_n 0, 1) := by decide +kernel
theorem dX6_would_44 : decode cX6_would 44 = .ok (.aload_n 0, 1) := by decide +kernel
theorem dX6_would_45 : decode cX6_would 45 = .ok (.iload_n 1, 1) := by decide +kernel
theorem dX6_would_46 : decode cX6_would 46 = .ok (.iload_n 2, 1) := by decide +kernel
theorem dX6_would_47 : decode cX6_would 47 = .ok (.invokevirtual 83, 3) := by decide +kernel
theorem dX6_would_50 : decode cX6_would 50 = .ok (.iconst 3, 1) := by decide +kernel
theorem dX6_would_51 : decode cX6_would 51 = .ok (.invokevirtual 46, 3) := by decide +kernel
theorem dX6_would_54 : decode cX6_would 54 = .ok (.istore 5, 2) := by decide +kernel
theorem dX6_would_56 : decode cX6_would 56 = .ok (.iload_n 3, 1) := by decide +kernel
theorem dX6_would_57 : decode cX6_would 57 = .ok (.iconst 2, 1) := by decide +kernel
theorem dX6_would_58 : decode cX6_would 58 = .ok (.if_icmp .ne 18, 3) := by decide +kernel
theorem dX6_would_61 : decode cX6_would 61 = .ok (.iload 5, 2) := by decide +kernel
theorem dX6_would_63 : decode cX6_would 63 = .ok (.ifCond .ne 8, 3) := by decide +kernel
theorem dX6_would_66 : decode cX6_would 66 = .ok (.bipush (-5), 2) := by decide +kernel
theorem dX6_would_68 : decode cX6_would 68 = .ok (.goto 7, 3) := by decide +kernel
theorem dX6_would_71 : decode cX6_would 71 = .ok (.iload 5, 2) := by decide +kernel
theorem dX6_would_73 : decode cX6_would 73 = .ok (.iconst 1, 1) := by decide +kernel
theorem dX6_would_74 : decode cX6_would 74 = .ok (.isub, 1) := by decide +kernel
theorem dX6_would_75 : decode cX6_would 75 = .ok (.ireturn, 1) := by decide +kernel
theorem dX6_would_76 : decode cX6_would 76 = .ok (.aload_n 0, 1) := by decide +kernel
theorem dX6_would_77 : decode cX6_would 77 = .ok (.invokevirtual 110, 3) := by decide +kernel
theorem dX6_would_80 : decode cX6_would 80 = .ok (.aload_n 0, 1) := by decide +kernel
theorem dX6_would_81 : decode cX6_would 81 = .ok (.iload_n 1, 1) := by decide +kernel
theorem dX6_would_82 : decode cX6_would 82 = .ok (.iload_n 2, 1) := by decide +kernel
theorem dX6_would_83 : decode cX6_would 83 = .ok (.invokevirtual 103, 3) := by decide +kernel
theorem dX6_would_86 : decode cX6_would 86 = .ok (.istore 6, 2) := by decide +kernel
theorem dX6_would_88 : decode cX6_would 88 = .ok (.iload_n 3, 1) := by decide +kernel
theorem dX6_would_89 : decode cX6_would 89 = .ok (.ifCond .ne 17, 3) := by decide +kernel
theorem dX6_would_92 : decode cX6_would 92 = .ok (.aload_n 0, 1) := by decide +kernel
theorem dX6_would_93 : decode cX6_would 93 = .ok (.aload_n 0, 1) := by decide +kernel
theorem dX6_would_94 : decode cX6_would 94 = .ok (.iload_n 1, 1) := by decide +kernel
theorem dX6_would_95 : decode cX6_would 95 = .ok (.iload_n 2, 1) := by decide +kernel
theorem dX6_would_96 : decode cX6_would 96 = .ok (.invokevirtual 83, 3) := by decide +kernel
theorem dX6_would_99 : decode cX6_would 99 = .ok (.iconst 0, 1) := by decide +kernel
theorem dX6_would_100 : decode cX6_would 100 = .ok (.invokevirtual 46, 3) := by decide +kernel
theorem dX6_would_103 : decode cX6_would 103 = .ok (.goto 9, 3) := by decide +kernel
theorem dX6_would_106 : decode cX6_would 106 = .ok (.aload_n 0, 1) := by decide +kernel
theorem dX6_would_107 : decode cX6_would 107 = .ok (.iload 6, 2) := by decide +kernel
theorem dX6_would_109 : decode cX6_would 109 = .ok (.invokevirtual 199, 3) := by decide +kernel
theorem dX6_would_112 : decode cX6_would 112 = .ok (.istore 7, 2) := by decide +kernel
theorem dX6_would_114 : decode cX6_would 114 = .ok (.aload_n 0, 1) := by decide +kernel
theorem dX6_would_115 : decode cX6_would 115 = .ok (.invokevirtual 116, 3) := by decide +kernel
theorem dX6_would_118 : decode cX6_would 118 = .ok (.iload 7, 2) := by decide +kernel
theorem dX6_would_120 : decode cX6_would 120 = .ok (.ireturn, 1) := by decide +kernel
set_option maxRecDepth 20000 in
theorem ggX6_loudest_X6_isHere : GoodIn wsX6_loudest wsX6_isHere := goodIn_r _ [6, 7, 8, 5, 9, 10, 11, 12, 13, 14, 57, 58, 59, 60, 61, 62, 63, 64, 65, 66, 67, 68, 69, 70] (by decide +kernel) (by decide +kernel)
set_option maxRecDepth 20000 in
theorem gX6_loudest_X6_isHere : GoodIn wsX6_loudest (wsV RX6 122 RX6 yX6_isHere wsX6_isHere) := goodIn_app (goodIn_of _ (by decide +kernel)) ggX6_loudest_X6_isHere
set_option maxRecDepth 20000 in
theorem ggX6_loudest_X6_loudness : GoodIn wsX6_loudest wsX6_loudness := goodIn_r _ [18, 14, 19, 20, 21, 5, 22, 23, 24, 25, 26, 27, 28, 29, 30, 31, 32, 33, 34, 35, 36, 37, 38, 39, 40, 41, 42, 43, 44, 45, 7, 8, 9, 46, 47, 48, 49, 50, 51, 52, 53, 54, 55, 56, 57, 58, 59, 60, 61, 62, 63, 64, 65, 66, 67, 68, 69, 70] (by decide +kernel) (by decide +kernel)
set_option maxRecDepth 20000 in
theorem gX6_loudest_X6_loudness : GoodIn wsX6_loudest (wsV RX6 205 RX6 yX6_loudness wsX6_loudness) := goodIn_app (goodIn_of _ (by decide +kernel)) ggX6_loudest_X6_loudness
theorem dX6_loudest_0 : decode cX6_loudest 0 = .ok (.aload_n 0, 1) := by decide +kernel
theorem dX6_loudest_1 : decode cX6_loudest 1 = .ok (.iconst 0, 1) := by decide +kernel
theorem dX6_loudest_2 : decode cX6_loudest 2 = .ok (.putfield 31, 3) := by decide +kernel
theorem dX6_loudest_5 : decode cX6_loudest 5 = .ok (.bipush (-5), 2) := by decide +kernel
theorem dX6_loudest_7 : decode cX6_loudest 7 = .ok (.istore_n 1, 1) := by decide +kernel
theorem dX6_loudest_8 : decode cX6_loudest 8 = .ok (.fconst 0, 1) := by decide +kernel
theorem dX6_loudest_9 : decode cX6_loudest 9 = .ok (.fstore_n 2, 1) := by decide +kernel
theorem dX6_loudest_10 : decode cX6_loudest 10 = .ok (.iconst 0, 1) := by decide +kernel
theorem dX6_loudest_11 : decode cX6_loudest 11 = .ok (.istore_n 3, 1) := by decide +kernel
theorem dX6_loudest_12 : decode cX6_loudest 12 = .ok (.iload_n 3, 1) := by decide +kernel
theorem dX6_loudest_13 : decode cX6_loudest 13 = .ok (.bipush 16, 2) := by decide +kernel
theorem dX6_loudest_15 : decode cX6_loudest 15 = .ok (.if_icmp .ge 67, 3) := by decide +kernel
theorem dX6_loudest_18 : decode cX6_loudest 18 = .ok (.aload_n 0, 1) := by decide +kernel
theorem dX6_loudest_19 : decode cX6_loudest 19 = .ok (.iload_n 3, 1) := by decide +kernel
theorem dX6_loudest_20 : decode cX6_loudest 20 = .ok (.invokevirtual 122, 3) := by decide +kernel
theorem dX6_loudest_23 : decode cX6_loudest 23 = .ok (.ifCond .eq 53, 3) := by decide +kernel
theorem dX6_loudest_26 : decode cX6_loudest 26 = .ok (.aload_n 0, 1) := by decide +kernel
theorem dX6_loudest_27 : decode cX6_loudest 27 = .ok (.iload_n 3, 1) := by decide +kernel
theorem dX6_loudest_28 : decode cX6_loudest 28 = .ok (.invokevirtual 205, 3) := by decide +kernel
theorem dX6_loudest_31 : decode cX6_loudest 31 = .ok (.fstore 4, 2) := by decide +kernel
theorem dX6_loudest_33 : decode cX6_loudest 33 = .ok (.iload_n 1, 1) := by decide +kernel
theorem dX6_loudest_34 : decode cX6_loudest 34 = .ok (.bipush (-5), 2) := by decide +kernel
theorem dX6_loudest_36 : decode cX6_loudest 36 = .ok (.if_icmp .eq 10, 3) := by decide +kernel
theorem dX6_loudest_39 : decode cX6_loudest 39 = .ok (.fload 4, 2) := by decide +kernel
theorem dX6_loudest_41 : decode cX6_loudest 41 = .ok (.fload_n 2, 1) := by decide +kernel
theorem dX6_loudest_42 : decode cX6_loudest 42 = .ok (.fcmp .l, 1) := by decide +kernel
theorem dX6_loudest_43 : decode cX6_loudest 43 = .ok (.ifCond .le 7, 3) := by decide +kernel
theorem dX6_loudest_46 : decode cX6_loudest 46 = .ok (.iconst 1, 1) := by decide +kernel
theorem dX6_loudest_47 : decode cX6_loudest 47 = .ok (.goto 4, 3) := by decide +kernel
theorem dX6_loudest_50 : decode cX6_loudest 50 = .ok (.iconst 0, 1) := by decide +kernel
theorem dX6_loudest_51 : decode cX6_loudest 51 = .ok (.istore 5, 2) := by decide +kernel
theorem dX6_loudest_53 : decode cX6_loudest 53 = .ok (.iload 5, 2) := by decide +kernel
theorem dX6_loudest_55 : decode cX6_loudest 55 = .ok (.ifCond .eq 7, 3) := by decide +kernel
theorem dX6_loudest_58 : decode cX6_loudest 58 = .ok (.iload_n 3, 1) := by decide +kernel
theorem dX6_loudest_59 : decode cX6_loudest 59 = .ok (.goto 4, 3) := by decide +kernel
theorem dX6_loudest_62 : decode cX6_loudest 62 = .ok (.iload_n 1, 1) := by decide +kernel
theorem dX6_loudest_63 : decode cX6_loudest 63 = .ok (.istore_n 1, 1) := by decide +kernel
theorem dX6_loudest_64 : decode cX6_loudest 64 = .ok (.iload 5, 2) := by decide +kernel
theorem dX6_loudest_66 : decode cX6_loudest 66 = .ok (.ifCond .eq 8, 3) := by decide +kernel
theorem dX6_loudest_69 : decode cX6_loudest 69 = .ok (.fload 4, 2) := by decide +kernel
theorem dX6_loudest_71 : decode cX6_loudest 71 = .ok (.goto 4, 3) := by decide +kernel
theorem dX6_loudest_74 : decode cX6_loudest 74 = .ok (.fload_n 2, 1) := by decide +kernel
theorem dX6_loudest_75 : decode cX6_loudest 75 = .ok (.fstore_n 2, 1) := by decide +kernel
theorem dX6_loudest_76 : decode cX6_loudest 76 = .ok (.iinc 3 1, 3) := by decide +kernel
theorem dX6_loudest_79 : decode cX6_loudest 79 = .ok (.goto (-67), 3) := by decide +kernel
theorem dX6_loudest_82 : decode cX6_loudest 82 = .ok (.iload_n 1, 1) := by decide +kernel
theorem dX6_loudest_83 : decode cX6_loudest 83 = .ok (.ireturn, 1) := by decide +kernel
set_option maxRecDepth 20000 in
theorem ggX6_share_X6_isHere : GoodIn wsX6_share wsX6_isHere := goodIn_r _ [8, 9, 10, 7, 11, 12, 13, 14, 15, 16, 35, 36, 37, 38, 39, 40, 41, 42, 43, 44, 45, 46, 47, 48] (by decide +kernel) (by decide +kernel)
set_option maxRecDepth 20000 in
theorem gX6_share_X6_isHere : GoodIn wsX6_share (wsV RX6 122 RX6 yX6_isHere wsX6_isHere) := goodIn_app (goodIn_of _ (by decide +kernel)) ggX6_share_X6_isHere
set_option maxRecDepth 20000 in
theorem ggX6_share_X6_areaOf : GoodIn wsX6_share wsX6_areaOf := goodIn_r _ [20, 16, 21, 22, 23, 7, 24, 25, 26, 27, 28, 29, 30, 31, 32, 33, 34, 35, 36, 37, 38, 39, 40, 41, 42, 43, 44, 45, 46, 47, 48] (by decide +kernel) (by decide +kernel)
set_option maxRecDepth 20000 in
theorem gX6_share_X6_areaOf : GoodIn wsX6_share (wsV RX6 129 RX6 yX6_areaOf wsX6_areaOf) := goodIn_app (goodIn_of _ (by decide +kernel)) ggX6_share_X6_areaOf
theorem dX6_share_0 : decode cX6_share 0 = .ok (.aload_n 0, 1) := by decide +kernel
theorem dX6_share_1 : decode cX6_share 1 = .ok (.iconst 0, 1) := by decide +kernel
theorem dX6_share_2 : decode cX6_share 2 = .ok (.putfield 31, 3) := by decide +kernel
theorem dX6_share_5 : decode cX6_share 5 = .ok (.aload_n 0, 1) := by decide +kernel
theorem dX6_share_6 : decode cX6_share 6 = .ok (.iload_n 1, 1) := by decide +kernel
theorem dX6_share_7 : decode cX6_share 7 = .ok (.invokevirtual 122, 3) := by decide +kernel
theorem dX6_share_10 : decode cX6_share 10 = .ok (.ifCond .eq 15, 3) := by decide +kernel
theorem dX6_share_13 : decode cX6_share 13 = .ok (.aload_n 0, 1) := by decide +kernel
theorem dX6_share_14 : decode cX6_share 14 = .ok (.iload_n 1, 1) := by decide +kernel
theorem dX6_share_15 : decode cX6_share 15 = .ok (.invokevirtual 129, 3) := by decide +kernel
theorem dX6_share_18 : decode cX6_share 18 = .ok (.i2f, 1) := by decide +kernel
theorem dX6_share_19 : decode cX6_share 19 = .ok (.ldc 232, 2) := by decide +kernel
theorem dX6_share_21 : decode cX6_share 21 = .ok (.fdiv, 1) := by decide +kernel
theorem dX6_share_22 : decode cX6_share 22 = .ok (.goto 5, 3) := by decide +kernel
theorem dX6_share_25 : decode cX6_share 25 = .ok (.ldc 233, 2) := by decide +kernel
theorem dX6_share_27 : decode cX6_share 27 = .ok (.freturn, 1) := by decide +kernel
set_option maxRecDepth 20000 in
theorem ggX6_depthOf_X6_ofPlot : GoodIn wsX6_depthOf wsX6_ofPlot := goodIn_r _ [6, 1, 7, 8, 9, 10, 11, 12, 13, 14, 15, 16, 17, 18, 19, 20] (by decide +kernel) (by decide +kernel)
set_option maxRecDepth 20000 in
theorem gX6_depthOf_X6_ofPlot : GoodIn wsX6_depthOf (wsV RX6 46 RX6 yX6_ofPlot wsX6_ofPlot) := goodIn_app (goodIn_of _ (by decide +kernel)) ggX6_depthOf_X6_ofPlot
theorem dX6_depthOf_0 : decode cX6_depthOf 0 = .ok (.aload_n 0, 1) := by decide +kernel
theorem dX6_depthOf_1 : decode cX6_depthOf 1 = .ok (.iconst 0, 1) := by decide +kernel
theorem dX6_depthOf_2 : decode cX6_depthOf 2 = .ok (.iconst 0, 1) := by decide +kernel
theorem dX6_depthOf_3 : decode cX6_depthOf 3 = .ok (.invokevirtual 46, 3) := by decide +kernel
theorem dX6_depthOf_6 : decode cX6_depthOf 6 = .ok (.istore_n 2, 1) := by decide +kernel
theorem dX6_depthOf_7 : decode cX6_depthOf 7 = .ok (.iconst 1, 1) := by decide +kernel
theorem dX6_depthOf_8 : decode cX6_depthOf 8 = .ok (.istore_n 3, 1) := by decide +kernel
theorem dX6_depthOf_9 : decode cX6_depthOf 9 = .ok (.iload_n 3, 1) := by decide +kernel
theorem dX6_depthOf_10 : decode cX6_depthOf 10 = .ok (.aload_n 0, 1) := by decide +kernel
theorem dX6_depthOf_11 : decode cX6_depthOf 11 = .ok (.getfield 7, 3) := by decide +kernel
theorem dX6_depthOf_14 : decode cX6_depthOf 14 = .ok (.iconst 1, 1) := by decide +kernel
theorem dX6_depthOf_15 : decode cX6_depthOf 15 = .ok (.iaload, 1) := by decide +kernel
theorem dX6_depthOf_16 : decode cX6_depthOf 16 = .ok (.if_icmp .ge 44, 3) := by decide +kernel
theorem dX6_depthOf_19 : decode cX6_depthOf 19 = .ok (.aload_n 0, 1) := by decide +kernel
theorem dX6_depthOf_20 : decode cX6_depthOf 20 = .ok (.iload_n 3, 1) := by decide +kernel
theorem dX6_depthOf_21 : decode cX6_depthOf 21 = .ok (.iconst 0, 1) := by decide +kernel
theorem dX6_depthOf_22 : decode cX6_depthOf 22 = .ok (.invokevirtual 46, 3) := by decide +kernel
theorem dX6_depthOf_25 : decode cX6_depthOf 25 = .ok (.istore 4, 2) := by decide +kernel
theorem dX6_depthOf_27 : decode cX6_depthOf 27 = .ok (.iload_n 1, 1) := by decide +kernel
theorem dX6_depthOf_28 : decode cX6_depthOf 28 = .ok (.ifCond .eq 9, 3) := by decide +kernel
theorem dX6_depthOf_31 : decode cX6_depthOf 31 = .ok (.iload 4, 2) := by decide +kernel
theorem dX6_depthOf_33 : decode cX6_depthOf 33 = .ok (.iload_n 2, 1) := by decide +kernel
theorem dX6_depthOf_34 : decode cX6_depthOf 34 = .ok (.if_icmp .gt 13, 3) := by decide +kernel
theorem dX6_depthOf_37 : decode cX6_depthOf 37 = .ok (.iload_n 1, 1) := by decide +kernel
theorem dX6_depthOf_38 : decode cX6_depthOf 38 = .ok (.ifCond .ne 14, 3) := by decide +kernel
theorem dX6_depthOf_41 : decode cX6_depthOf 41 = .ok (.iload 4, 2) := by decide +kernel
theorem dX6_depthOf_43 : decode cX6_depthOf 43 = .ok (.iload_n 2, 1) := by decide +kernel
theorem dX6_depthOf_44 : decode cX6_depthOf 44 = .ok (.if_icmp .ge 8, 3) := by decide +kernel
theorem dX6_depthOf_47 : decode cX6_depthOf 47 = .ok (.iload 4, 2) := by decide +kernel
theorem dX6_depthOf_49 : decode cX6_depthOf 49 = .ok (.goto 4, 3) := by decide +kernel
theorem dX6_depthOf_52 : decode cX6_depthOf 52 = .ok (.iload_n 2, 1) := by decide +kernel
theorem dX6_depthOf_53 : decode cX6_depthOf 53 = .ok (.istore_n 2, 1) := by decide +kernel
theorem dX6_depthOf_54 : decode cX6_depthOf 54 = .ok (.iinc 3 1, 3) := by decide +kernel
theorem dX6_depthOf_57 : decode cX6_depthOf 57 = .ok (.goto (-48), 3) := by decide +kernel
theorem dX6_depthOf_60 : decode cX6_depthOf 60 = .ok (.iload_n 2, 1) := by decide +kernel
theorem dX6_depthOf_61 : decode cX6_depthOf 61 = .ok (.ireturn, 1) := by decide +kernel
set_option maxRecDepth 20000 in
theorem ggX6_withMore_X6_isHere : GoodIn wsX6_withMore wsX6_isHere := goodIn_r _ [5, 6, 7, 4, 8, 9, 10, 11, 12, 13, 22, 23, 24, 25, 26, 27, 28, 29, 30, 31, 32, 33, 34, 35] (by decide +kernel) (by decide +kernel)
set_option maxRecDepth 20000 in
theorem gX6_withMore_X6_isHere : GoodIn wsX6_withMore (wsV RX6 122 RX6 yX6_isHere wsX6_isHere) := goodIn_app (goodIn_of _ (by decide +kernel)) ggX6_withMore_X6_isHere
set_option maxRecDepth 20000 in
theorem ggX6_withMore_X6_plotsOf : GoodIn wsX6_withMore wsX6_plotsOf := goodIn_r _ [17, 13, 18, 19, 20, 4, 21, 22, 23, 24, 25, 26, 27, 28, 29, 30, 31, 32, 33, 34, 35] (by decide +kernel) (by decide +kernel)
set_option maxRecDepth 20000 in
theorem gX6_withMore_X6_plotsOf : GoodIn wsX6_withMore (wsV RX6 196 RX6 yX6_plotsOf wsX6_plotsOf) := goodIn_app (goodIn_of _ (by decide +kernel)) ggX6_withMore_X6_plotsOf
theorem dX6_withMore_0 : decode cX6_withMore 0 = .ok (.iconst 0, 1) := by decide +kernel
theorem dX6_withMore_1 : decode cX6_withMore 1 = .ok (.istore_n 1, 1) := by decide +kernel
theorem dX6_withMore_2 : decode cX6_withMore 2 = .ok (.iconst 0, 1) := by decide +kernel
theorem dX6_withMore_3 : decode cX6_withMore 3 = .ok (.istore_n 2, 1) := by decide +kernel
theorem dX6_withMore_4 : decode cX6_withMore 4 = .ok (.iload_n 2, 1) := by decide +kernel
theorem dX6_withMore_5 : decode cX6_withMore 5 = .ok (.bipush 16, 2) := by decide +kernel
theorem dX6_withMore_7 : decode cX6_withMore 7 = .ok (.if_icmp .ge 34, 3) := by decide +kernel
theorem dX6_withMore_10 : decode cX6_withMore 10 = .ok (.iload_n 1, 1) := by decide +kernel
theorem dX6_withMore_11 : decode cX6_withMore 11 = .ok (.aload_n 0, 1) := by decide +kernel
theorem dX6_withMore_12 : decode cX6_withMore 12 = .ok (.iload_n 2, 1) := by decide +kernel
theorem dX6_withMore_13 : decode cX6_withMore 13 = .ok (.invokevirtual 122, 3) := by decide +kernel
theorem dX6_withMore_16 : decode cX6_withMore 16 = .ok (.ifCond .eq 16, 3) := by decide +kernel
theorem dX6_withMore_19 : decode cX6_withMore 19 = .ok (.aload_n 0, 1) := by decide +kernel
theorem dX6_withMore_20 : decode cX6_withMore 20 = .ok (.iload_n 2, 1) := by decide +kernel
theorem dX6_withMore_21 : decode cX6_withMore 21 = .ok (.invokevirtual 196, 3) := by decide +kernel
theorem dX6_withMore_24 : decode cX6_withMore 24 = .ok (.iconst 1, 1) := by decide +kernel
theorem dX6_withMore_25 : decode cX6_withMore 25 = .ok (.if_icmp .le 7, 3) := by decide +kernel
theorem dX6_withMore_28 : decode cX6_withMore 28 = .ok (.iconst 1, 1) := by decide +kernel
theorem dX6_withMore_29 : decode cX6_withMore 29 = .ok (.goto 4, 3) := by decide +kernel
theorem dX6_withMore_32 : decode cX6_withMore 32 = .ok (.iconst 0, 1) := by decide +kernel
theorem dX6_withMore_33 : decode cX6_withMore 33 = .ok (.iadd, 1) := by decide +kernel
theorem dX6_withMore_34 : decode cX6_withMore 34 = .ok (.istore_n 1, 1) := by decide +kernel
theorem dX6_withMore_35 : decode cX6_withMore 35 = .ok (.iinc 2 1, 3) := by decide +kernel
theorem dX6_withMore_38 : decode cX6_withMore 38 = .ok (.goto (-34), 3) := by decide +kernel
theorem dX6_withMore_41 : decode cX6_withMore 41 = .ok (.iload_n 1, 1) := by decide +kernel
theorem dX6_withMore_42 : decode cX6_withMore 42 = .ok (.ireturn, 1) := by decide +kernel
set_option maxRecDepth 20000 in
theorem ggX6_count_X6_onField : GoodIn wsX6_count wsX6_onField := goodIn_r _ [9, 10, 11, 12, 8, 13, 2, 37, 38, 39, 40, 41, 42, 43, 44, 45, 46, 47, 48, 49, 50] (by decide +kernel) (by decide +kernel)
set_option maxRecDepth 20000 in
theorem gX6_count_X6_onField : GoodIn wsX6_count (wsV RX6 141 RX6 yX6_onField wsX6_onField) := goodIn_app (goodIn_of _ (by decide +kernel)) ggX6_count_X6_onField
set_option maxRecDepth 20000 in
theorem ggX6_count_X6_depthOf : GoodIn wsX6_count wsX6_depthOf := goodIn_r _ [17, 2, 18, 19, 20, 8, 21, 37, 38, 39, 40, 41, 42, 43, 44, 45, 46, 47, 48, 49, 50] (by decide +kernel) (by decide +kernel)
set_option maxRecDepth 20000 in
theorem gX6_count_X6_depthOf : GoodIn wsX6_count (wsV RX6 234 RX6 yX6_depthOf wsX6_depthOf) := goodIn_app (goodIn_of _ (by decide +kernel)) ggX6_count_X6_depthOf
set_option maxRecDepth 20000 in
theorem ggX6_count_X6_withMore : GoodIn wsX6_count wsX6_withMore := goodIn_r _ [25, 26, 27, 28, 8, 29, 30, 31, 32, 10, 11, 12, 13, 2, 33, 34, 35, 36, 18, 19, 20, 21, 37, 38, 39, 40, 41, 42, 43, 44, 45, 46, 47, 48, 49, 50] (by decide +kernel) (by decide +kernel)
set_option maxRecDepth 20000 in
theorem gX6_count_X6_withMore : GoodIn wsX6_count (wsV RX6 238 RX6 yX6_withMore wsX6_withMore) := goodIn_app (goodIn_of _ (by decide +kernel)) ggX6_count_X6_withMore
theorem dX6_count_0 : decode cX6_count 0 = .ok (.aload_n 0, 1) := by decide +kernel
theorem dX6_count_1 : decode cX6_count 1 = .ok (.iconst 0, 1) := by decide +kernel
theorem dX6_count_2 : decode cX6_count 2 = .ok (.putfield 31, 3) := by decide +kernel
theorem dX6_count_5 : decode cX6_count 5 = .ok (.iload_n 1, 1) := by decide +kernel
theorem dX6_count_6 : decode cX6_count 6 = .ok (.tableswitch 130 0 11 #[62, 67, 74, 81, 88, 88, 103, 108, 108, 108, 120, 125], 62) := by decide +kernel
theorem dX6_count_68 : decode cX6_count 68 = .ok (.aload_n 0, 1) := by decide +kernel
theorem dX6_count_69 : decode cX6_count 69 = .ok (.invokevirtual 141, 3) := by decide +kernel
theorem dX6_count_72 : decode cX6_count 72 = .ok (.ireturn, 1) := by decide +kernel
theorem dX6_count_73 : decode cX6_count 73 = .ok (.aload_n 0, 1) := by decide +kernel
theorem dX6_count_74 : decode cX6_count 74 = .ok (.getfield 7, 3) := by decide +kernel
theorem dX6_count_77 : decode cX6_count 77 = .ok (.iconst 0, 1) := by decide +kernel
theorem dX6_count_78 : decode cX6_count 78 = .ok (.iaload, 1) := by decide +kernel
theorem dX6_count_79 : decode cX6_count 79 = .ok (.ireturn, 1) := by decide +kernel
theorem dX6_count_80 : decode cX6_count 80 = .ok (.aload_n 0, 1) := by decide +kernel
theorem dX6_count_81 : decode cX6_count 81 = .ok (.getfield 7, 3) := by decide +kernel
theorem dX6_count_84 : decode cX6_count 84 = .ok (.iconst 1, 1) := by decide +kernel
theorem dX6_count_85 : decode cX6_count 85 = .ok (.iaload, 1) := by decide +kernel
theorem dX6_count_86 : decode cX6_count 86 = .ok (.ireturn, 1) := by decide +kernel
theorem dX6_count_87 : decode cX6_count 87 = .ok (.aload_n 0, 1) := by decide +kernel
theorem dX6_count_88 : decode cX6_count 88 = .ok (.getfield 7, 3) := by decide +kernel
theorem dX6_count_91 : decode cX6_count 91 = .ok (.iconst 2, 1) := by decide +kernel
theorem dX6_count_92 : decode cX6_count 92 = .ok (.iaload, 1) := by decide +kernel
theorem dX6_count_93 : decode cX6_count 93 = .ok (.ireturn, 1) := by decide +kernel
theorem dX6_count_94 : decode cX6_count 94 = .ok (.aload_n 0, 1) := by decide +kernel
theorem dX6_count_95 : decode cX6_count 95 = .ok (.iload_n 1, 1) := by decide +kernel
theorem dX6_count_96 : decode cX6_count 96 = .ok (.iconst 4, 1) := by decide +kernel
theorem dX6_count_97 : decode cX6_count 97 = .ok (.if_icmp .ne 7, 3) := by decide +kernel
theorem dX6_count_100 : decode cX6_count 100 = .ok (.iconst 1, 1) := by decide +kernel
theorem dX6_count_101 : decode cX6_count 101 = .ok (.goto 4, 3) := by decide +kernel
theorem dX6_count_104 : decode cX6_count 104 = .ok (.iconst 0, 1) := by decide +kernel
theorem dX6_count_105 : decode cX6_count 105 = .ok (.invokevirtual 234, 3) := by decide +kernel
theorem dX6_count_108 : decode cX6_count 108 = .ok (.ireturn, 1) := by decide +kernel
theorem dX6_count_109 : decode cX6_count 109 = .ok (.aload_n 0, 1) := by decide +kernel
theorem dX6_count_110 : decode cX6_count 110 = .ok (.invokevirtual 238, 3) := by decide +kernel
theorem dX6_count_113 : decode cX6_count 113 = .ok (.ireturn, 1) := by decide +kernel
theorem dX6_count_114 : decode cX6_count 114 = .ok (.aload_n 0, 1) := by decide +kernel
theorem dX6_count_115 : decode cX6_count 115 = .ok (.getfield 7, 3) := by decide +kernel
theorem dX6_count_118 : decode cX6_count 118 = .ok (.iconst 3, 1) := by decide +kernel
theorem dX6_count_119 : decode cX6_count 119 = .ok (.iload_n 1, 1) := by decide +kernel
theorem dX6_count_120 : decode cX6_count 120 = .ok (.iadd, 1) := by decide +kernel
theorem dX6_count_121 : decode cX6_count 121 = .ok (.bipush 7, 2) := by decide +kernel
theorem dX6_count_123 : decode cX6_count 123 = .ok (.isub, 1) := by decide +kernel
theorem dX6_count_124 : decode cX6_count 124 = .ok (.iaload, 1) := by decide +kernel
theorem dX6_count_125 : decode cX6_count 125 = .ok (.ireturn, 1) := by decide +kernel
theorem dX6_count_126 : decode cX6_count 126 = .ok (.aload_n 0, 1) := by decide +kernel
theorem dX6_count_127 : decode cX6_count 127 = .ok (.getfield 43, 3) := by decide +kernel
theorem dX6_count_130 : decode cX6_count 130 = .ok (.ireturn, 1) := by decide +kernel
theorem dX6_count_131 : decode cX6_count 131 = .ok (.aload_n 0, 1) := by decide +kernel
theorem dX6_count_132 : decode cX6_count 132 = .ok (.getfield 161, 3) := by decide +kernel
theorem dX6_count_135 : decode cX6_count 135 = .ok (.ireturn, 1) := by decide +kernel
theorem dX6_count_136 : decode cX6_count 136 = .ok (.bipush (-2), 2) := by decide +kernel
theorem dX6_count_138 : decode cX6_count 138 = .ok (.ireturn, 1) := by decide +kernel
theorem dJxf58ca_isNaN_12338_0 : decode cJxf58ca_isNaN_12338 0 = .ok (.fload_n 0, 1) := by decide +kernel
theorem dJxf58ca_isNaN_12338_1 : decode cJxf58ca_isNaN_12338 1 = .ok (.fload_n 0, 1) := by decide +kernel
theorem dJxf58ca_isNaN_12338_2 : decode cJxf58ca_isNaN_12338 2 = .ok (.fcmp .l, 1) := by decide +kernel
theorem dJxf58ca_isNaN_12338_3 : decode cJxf58ca_isNaN_12338 3 = .ok (.ifCond .eq 7, 3) := by decide +kernel
theorem dJxf58ca_isNaN_12338_6 : decode cJxf58ca_isNaN_12338 6 = .ok (.iconst 1, 1) := by decide +kernel
theorem dJxf58ca_isNaN_12338_7 : decode cJxf58ca_isNaN_12338 7 = .ok (.goto 4, 3) := by decide +kernel
theorem dJxf58ca_isNaN_12338_10 : decode cJxf58ca_isNaN_12338 10 = .ok (.iconst 0, 1) := by decide +kernel
theorem dJxf58ca_isNaN_12338_11 : decode cJxf58ca_isNaN_12338 11 = .ok (.ireturn, 1) := by decide +kernel
set_option maxRecDepth 20000 in
theorem ggJxf58ca_floatToIntBits_5c35a_Jxf58ca_isNaN_12338 : GoodIn wsJxf58ca_floatToIntBits_5c35a wsJxf58ca_isNaN_12338 := goodIn_r _ [9] (by decide +kernel) (by decide +kernel)
set_option maxRecDepth 20000 in
theorem gJxf58ca_floatToIntBits_5c35a_Jxf58ca_isNaN_12338 : GoodIn wsJxf58ca_floatToIntBits_5c35a (va_wsS RJxf58ca 59 yJxf58ca_isNaN_12338 wsJxf58ca_isNaN_12338) := goodIn_app (goodIn_of _ (by decide +kernel)) ggJxf58ca_floatToIntBits_5c35a_Jxf58ca_isNaN_12338
theorem dJxf58ca_floatToIntBits_5c35a_0 : decode cJxf58ca_floatToIntBits_5c35a 0 = .ok (.fload_n 0, 1) := by decide +kernel
theorem dJxf58ca_floatToIntBits_5c35a_1 : decode cJxf58ca_floatToIntBits_5c35a 1 = .ok (.invokestatic 59, 3) := by decide +kernel
theorem dJxf58ca_floatToIntBits_5c35a_4 : decode cJxf58ca_floatToIntBits_5c35a 4 = .ok (.ifCond .ne 8, 3) := by decide +kernel
theorem dJxf58ca_floatToIntBits_5c35a_7 : decode cJxf58ca_floatToIntBits_5c35a 7 = .ok (.fload_n 0, 1) := by decide +kernel
theorem dJxf58ca_floatToIntBits_5c35a_8 : decode cJxf58ca_floatToIntBits_5c35a 8 = .ok (.invokestatic 74, 3) := by decide +kernel
theorem dJxf58ca_floatToIntBits_5c35a_11 : decode cJxf58ca_floatToIntBits_5c35a 11 = .ok (.ireturn, 1) := by decide +kernel
theorem dJxf58ca_floatToIntBits_5c35a_12 : decode cJxf58ca_floatToIntBits_5c35a 12 = .ok (.ldc 77, 2) := by decide +kernel
theorem dJxf58ca_floatToIntBits_5c35a_14 : decode cJxf58ca_floatToIntBits_5c35a 14 = .ok (.ireturn, 1) := by decide +kernel
theorem dJ6_bitCount_0f7a4_0 : decode cJ6_bitCount_0f7a4 0 = .ok (.iload_n 0, 1) := by decide +kernel
theorem dJ6_bitCount_0f7a4_1 : decode cJ6_bitCount_0f7a4 1 = .ok (.iload_n 0, 1) := by decide +kernel
theorem dJ6_bitCount_0f7a4_2 : decode cJ6_bitCount_0f7a4 2 = .ok (.iconst 1, 1) := by decide +kernel
theorem dJ6_bitCount_0f7a4_3 : decode cJ6_bitCount_0f7a4 3 = .ok (.iushr, 1) := by decide +kernel
theorem dJ6_bitCount_0f7a4_4 : decode cJ6_bitCount_0f7a4 4 = .ok (.ldc_w 265, 3) := by decide +kernel
theorem dJ6_bitCount_0f7a4_7 : decode cJ6_bitCount_0f7a4 7 = .ok (.iand, 1) := by decide +kernel
theorem dJ6_bitCount_0f7a4_8 : decode cJ6_bitCount_0f7a4 8 = .ok (.isub, 1) := by decide +kernel
theorem dJ6_bitCount_0f7a4_9 : decode cJ6_bitCount_0f7a4 9 = .ok (.istore_n 0, 1) := by decide +kernel
theorem dJ6_bitCount_0f7a4_10 : decode cJ6_bitCount_0f7a4 10 = .ok (.iload_n 0, 1) := by decide +kernel
theorem dJ6_bitCount_0f7a4_11 : decode cJ6_bitCount_0f7a4 11 = .ok (.ldc_w 266, 3) := by decide +kernel
theorem dJ6_bitCount_0f7a4_14 : decode cJ6_bitCount_0f7a4 14 = .ok (.iand, 1) := by decide +kernel
theorem dJ6_bitCount_0f7a4_15 : decode cJ6_bitCount_0f7a4 15 = .ok (.iload_n 0, 1) := by decide +kernel
theorem dJ6_bitCount_0f7a4_16 : decode cJ6_bitCount_0f7a4 16 = .ok (.iconst 2, 1) := by decide +kernel
theorem dJ6_bitCount_0f7a4_17 : decode cJ6_bitCount_0f7a4 17 = .ok (.iushr, 1) := by decide +kernel
theorem dJ6_bitCount_0f7a4_18 : decode cJ6_bitCount_0f7a4 18 = .ok (.ldc_w 266, 3) := by decide +kernel
theorem dJ6_bitCount_0f7a4_21 : decode cJ6_bitCount_0f7a4 21 = .ok (.iand, 1) := by decide +kernel
theorem dJ6_bitCount_0f7a4_22 : decode cJ6_bitCount_0f7a4 22 = .ok (.iadd, 1) := by decide +kernel
theorem dJ6_bitCount_0f7a4_23 : decode cJ6_bitCount_0f7a4 23 = .ok (.istore_n 0, 1) := by decide +kernel
theorem dJ6_bitCount_0f7a4_24 : decode cJ6_bitCount_0f7a4 24 = .ok (.iload_n 0, 1) := by decide +kernel
theorem dJ6_bitCount_0f7a4_25 : decode cJ6_bitCount_0f7a4 25 = .ok (.iload_n 0, 1) := by decide +kernel
theorem dJ6_bitCount_0f7a4_26 : decode cJ6_bitCount_0f7a4 26 = .ok (.iconst 4, 1) := by decide +kernel
theorem dJ6_bitCount_0f7a4_27 : decode cJ6_bitCount_0f7a4 27 = .ok (.iushr, 1) := by decide +kernel
theorem dJ6_bitCount_0f7a4_28 : decode cJ6_bitCount_0f7a4 28 = .ok (.iadd, 1) := by decide +kernel
theorem dJ6_bitCount_0f7a4_29 : decode cJ6_bitCount_0f7a4 29 = .ok (.ldc_w 267, 3) := by decide +kernel
theorem dJ6_bitCount_0f7a4_32 : decode cJ6_bitCount_0f7a4 32 = .ok (.iand, 1) := by decide +kernel
theorem dJ6_bitCount_0f7a4_33 : decode cJ6_bitCount_0f7a4 33 = .ok (.istore_n 0, 1) := by decide +kernel
theorem dJ6_bitCount_0f7a4_34 : decode cJ6_bitCount_0f7a4 34 = .ok (.iload_n 0, 1) := by decide +kernel
theorem dJ6_bitCount_0f7a4_35 : decode cJ6_bitCount_0f7a4 35 = .ok (.iload_n 0, 1) := by decide +kernel
theorem dJ6_bitCount_0f7a4_36 : decode cJ6_bitCount_0f7a4 36 = .ok (.bipush 8, 2) := by decide +kernel
theorem dJ6_bitCount_0f7a4_38 : decode cJ6_bitCount_0f7a4 38 = .ok (.iushr, 1) := by decide +kernel
theorem dJ6_bitCount_0f7a4_39 : decode cJ6_bitCount_0f7a4 39 = .ok (.iadd, 1) := by decide +kernel
theorem dJ6_bitCount_0f7a4_40 : decode cJ6_bitCount_0f7a4 40 = .ok (.istore_n 0, 1) := by decide +kernel
theorem dJ6_bitCount_0f7a4_41 : decode cJ6_bitCount_0f7a4 41 = .ok (.iload_n 0, 1) := by decide +kernel
theorem dJ6_bitCount_0f7a4_42 : decode cJ6_bitCount_0f7a4 42 = .ok (.iload_n 0, 1) := by decide +kernel
theorem dJ6_bitCount_0f7a4_43 : decode cJ6_bitCount_0f7a4 43 = .ok (.bipush 16, 2) := by decide +kernel
theorem dJ6_bitCount_0f7a4_45 : decode cJ6_bitCount_0f7a4 45 = .ok (.iushr, 1) := by decide +kernel
theorem dJ6_bitCount_0f7a4_46 : decode cJ6_bitCount_0f7a4 46 = .ok (.iadd, 1) := by decide +kernel
theorem dJ6_bitCount_0f7a4_47 : decode cJ6_bitCount_0f7a4 47 = .ok (.istore_n 0, 1) := by decide +kernel
theorem dJ6_bitCount_0f7a4_48 : decode cJ6_bitCount_0f7a4 48 = .ok (.iload_n 0, 1) := by decide +kernel
theorem dJ6_bitCount_0f7a4_49 : decode cJ6_bitCount_0f7a4 49 = .ok (.bipush 63, 2) := by decide +kernel
theorem dJ6_bitCount_0f7a4_51 : decode cJ6_bitCount_0f7a4 51 = .ok (.iand, 1) := by decide +kernel
theorem dJ6_bitCount_0f7a4_52 : decode cJ6_bitCount_0f7a4 52 = .ok (.ireturn, 1) := by decide +kernel
theorem dJ9_max_7cf53_0 : decode cJ9_max_7cf53 0 = .ok (.iload_n 0, 1) := by decide +kernel
theorem dJ9_max_7cf53_1 : decode cJ9_max_7cf53 1 = .ok (.iload_n 1, 1) := by decide +kernel
theorem dJ9_max_7cf53_2 : decode cJ9_max_7cf53 2 = .ok (.if_icmp .lt 7, 3) := by decide +kernel
theorem dJ9_max_7cf53_5 : decode cJ9_max_7cf53 5 = .ok (.iload_n 0, 1) := by decide +kernel
theorem dJ9_max_7cf53_6 : decode cJ9_max_7cf53 6 = .ok (.goto 4, 3) := by decide +kernel
theorem dJ9_max_7cf53_9 : decode cJ9_max_7cf53 9 = .ok (.iload_n 1, 1) := by decide +kernel
theorem dJ9_max_7cf53_10 : decode cJ9_max_7cf53 10 = .ok (.ireturn, 1) := by decide +kernel
theorem dJ9_min_7cf53_0 : decode cJ9_min_7cf53 0 = .ok (.iload_n 0, 1) := by decide +kernel
theorem dJ9_min_7cf53_1 : decode cJ9_min_7cf53 1 = .ok (.iload_n 1, 1) := by decide +kernel
theorem dJ9_min_7cf53_2 : decode cJ9_min_7cf53 2 = .ok (.if_icmp .gt 7, 3) := by decide +kernel
theorem dJ9_min_7cf53_5 : decode cJ9_min_7cf53 5 = .ok (.iload_n 0, 1) := by decide +kernel
theorem dJ9_min_7cf53_6 : decode cJ9_min_7cf53 6 = .ok (.goto 4, 3) := by decide +kernel
theorem dJ9_min_7cf53_9 : decode cJ9_min_7cf53 9 = .ok (.iload_n 1, 1) := by decide +kernel
theorem dJ9_min_7cf53_10 : decode cJ9_min_7cf53 10 = .ok (.ireturn, 1) := by decide +kernel

set_option maxRecDepth 20000 in
theorem ggX0_init_X3_init : GoodIn wsX0_init wsX3_init := goodIn_r _ [19, 20, 2, 3, 21, 9, 10, 22, 23, 24, 25, 26, 27, 28, 29, 30, 31, 32, 33, 34, 35, 36, 55, 38, 39, 40, 41, 42] (by decide +kernel) (by decide +kernel)
set_option maxRecDepth 20000 in
theorem gX0_init_X3_init : GoodIn wsX0_init (wsX3_init) := ggX0_init_X3_init
set_option maxRecDepth 20000 in
theorem ggX0_init_X4_init : GoodIn wsX0_init wsX4_init := goodIn_r _ [29, 30, 2, 3, 31, 32, 55] (by decide +kernel) (by decide +kernel)
set_option maxRecDepth 20000 in
theorem gX0_init_X4_init : GoodIn wsX0_init (wsX4_init) := ggX0_init_X4_init
theorem dX0_init_0 : decode cX0_init 0 = .ok (.aload_n 0, 1) := by decide +kernel
theorem dX0_init_1 : decode cX0_init 1 = .ok (.invokespecial 3, 3) := by decide +kernel
theorem dX0_init_4 : decode cX0_init 4 = .ok (.aload_n 0, 1) := by decide +kernel
theorem dX0_init_5 : decode cX0_init 5 = .ok (.new 9, 3) := by decide +kernel
theorem dX0_init_8 : decode cX0_init 8 = .ok (.dup, 1) := by decide +kernel
theorem dX0_init_9 : decode cX0_init 9 = .ok (.invokespecial 11, 3) := by decide +kernel
theorem dX0_init_12 : decode cX0_init 12 = .ok (.putfield 12, 3) := by decide +kernel
theorem dX0_init_15 : decode cX0_init 15 = .ok (.aload_n 0, 1) := by decide +kernel
theorem dX0_init_16 : decode cX0_init 16 = .ok (.new 18, 3) := by decide +kernel
theorem dX0_init_19 : decode cX0_init 19 = .ok (.dup, 1) := by decide +kernel
theorem dX0_init_20 : decode cX0_init 20 = .ok (.bipush 16, 2) := by decide +kernel
theorem dX0_init_22 : decode cX0_init 22 = .ok (.invokespecial 20, 3) := by decide +kernel
theorem dX0_init_25 : decode cX0_init 25 = .ok (.putfield 23, 3) := by decide +kernel
theorem dX0_init_28 : decode cX0_init 28 = .ok (.aload_n 0, 1) := by decide +kernel
theorem dX0_init_29 : decode cX0_init 29 = .ok (.new 18, 3) := by decide +kernel
theorem dX0_init_32 : decode cX0_init 32 = .ok (.dup, 1) := by decide +kernel
theorem dX0_init_33 : decode cX0_init 33 = .ok (.bipush 16, 2) := by decide +kernel
theorem dX0_init_35 : decode cX0_init 35 = .ok (.invokespecial 20, 3) := by decide +kernel
theorem dX0_init_38 : decode cX0_init 38 = .ok (.putfield 27, 3) := by decide +kernel
theorem dX0_init_41 : decode cX0_init 41 = .ok (.aload_n 0, 1) := by decide +kernel
theorem dX0_init_42 : decode cX0_init 42 = .ok (.new 18, 3) := by decide +kernel
theorem dX0_init_45 : decode cX0_init 45 = .ok (.dup, 1) := by decide +kernel
theorem dX0_init_46 : decode cX0_init 46 = .ok (.bipush 16, 2) := by decide +kernel
theorem dX0_init_48 : decode cX0_init 48 = .ok (.invokespecial 20, 3) := by decide +kernel
theorem dX0_init_51 : decode cX0_init 51 = .ok (.putfield 30, 3) := by decide +kernel
theorem dX0_init_54 : decode cX0_init 54 = .ok (.aload_n 0, 1) := by decide +kernel
theorem dX0_init_55 : decode cX0_init 55 = .ok (.new 18, 3) := by decide +kernel
theorem dX0_init_58 : decode cX0_init 58 = .ok (.dup, 1) := by decide +kernel
theorem dX0_init_59 : decode cX0_init 59 = .ok (.bipush 20, 2) := by decide +kernel
theorem dX0_init_61 : decode cX0_init 61 = .ok (.invokespecial 20, 3) := by decide +kernel
theorem dX0_init_64 : decode cX0_init 64 = .ok (.putfield 33, 3) := by decide +kernel
theorem dX0_init_67 : decode cX0_init 67 = .ok (.aload_n 0, 1) := by decide +kernel
theorem dX0_init_68 : decode cX0_init 68 = .ok (.new 18, 3) := by decide +kernel
theorem dX0_init_71 : decode cX0_init 71 = .ok (.dup, 1) := by decide +kernel
theorem dX0_init_72 : decode cX0_init 72 = .ok (.bipush 20, 2) := by decide +kernel
theorem dX0_init_74 : decode cX0_init 74 = .ok (.invokespecial 20, 3) := by decide +kernel
theorem dX0_init_77 : decode cX0_init 77 = .ok (.putfield 36, 3) := by decide +kernel
theorem dX0_init_80 : decode cX0_init 80 = .ok (.aload_n 0, 1) := by decide +kernel
theorem dX0_init_81 : decode cX0_init 81 = .ok (.new 18, 3) := by decide +kernel
theorem dX0_init_84 : decode cX0_init 84 = .ok (.dup, 1) := by decide +kernel
theorem dX0_init_85 : decode cX0_init 85 = .ok (.bipush 20, 2) := by decide +kernel
theorem dX0_init_87 : decode cX0_init 87 = .ok (.invokespecial 20, 3) := by decide +kernel
theorem dX0_init_90 : decode cX0_init 90 = .ok (.putfield 39, 3) := by decide +kernel
theorem dX0_init_93 : decode cX0_init 93 = .ok (.return_, 1) := by decide +kernel
set_option maxRecDepth 20000 in
theorem ggX0_copyFrom_X3_copyFrom : GoodIn wsX0_copyFrom wsX3_copyFrom := goodIn_r _ [17, 18, 19, 20, 21, 22, 23, 24, 25, 26, 27, 28, 42, 43, 44, 45, 46, 47] (by decide +kernel) (by decide +kernel)
set_option maxRecDepth 20000 in
theorem gX0_copyFrom_X3_copyFrom : GoodIn wsX0_copyFrom (wsV RX0 58 RX3 yX3_copyFrom wsX3_copyFrom) := goodIn_app (goodIn_of _ (by decide +kernel)) ggX0_copyFrom_X3_copyFrom
set_option maxRecDepth 20000 in
theorem ggX0_copyFrom_X4_copyFrom : GoodIn wsX0_copyFrom wsX4_copyFrom := goodIn_r _ [27, 28, 47] (by decide +kernel) (by decide +kernel)
set_option maxRecDepth 20000 in
theorem gX0_copyFrom_X4_copyFrom : GoodIn wsX0_copyFrom (wsV RX0 62 RX4 yX4_copyFrom wsX4_copyFrom) := goodIn_app (goodIn_of _ (by decide +kernel)) ggX0_copyFrom_X4_copyFrom
theorem dX0_copyFrom_0 : decode cX0_copyFrom 0 = .ok (.aload_n 0, 1) := by decide +kernel
theorem dX0_copyFrom_1 : decode cX0_copyFrom 1 = .ok (.aload_n 1, 1) := by decide +kernel
theorem dX0_copyFrom_2 : decode cX0_copyFrom 2 = .ok (.getfield 42, 3) := by decide +kernel
theorem dX0_copyFrom_5 : decode cX0_copyFrom 5 = .ok (.putfield 42, 3) := by decide +kernel
theorem dX0_copyFrom_8 : decode cX0_copyFrom 8 = .ok (.aload_n 0, 1) := by decide +kernel
theorem dX0_copyFrom_9 : decode cX0_copyFrom 9 = .ok (.aload_n 1, 1) := by decide +kernel
theorem dX0_copyFrom_10 : decode cX0_copyFrom 10 = .ok (.getfield 46, 3) := by decide +kernel
theorem dX0_copyFrom_13 : decode cX0_copyFrom 13 = .ok (.putfield 46, 3) := by decide +kernel
theorem dX0_copyFrom_16 : decode cX0_copyFrom 16 = .ok (.aload_n 0, 1) := by decide +kernel
theorem dX0_copyFrom_17 : decode cX0_copyFrom 17 = .ok (.aload_n 1, 1) := by decide +kernel
theorem dX0_copyFrom_18 : decode cX0_copyFrom 18 = .ok (.getfield 49, 3) := by decide +kernel
theorem dX0_copyFrom_21 : decode cX0_copyFrom 21 = .ok (.putfield 49, 3) := by decide +kernel
theorem dX0_copyFrom_24 : decode cX0_copyFrom 24 = .ok (.aload_n 0, 1) := by decide +kernel
theorem dX0_copyFrom_25 : decode cX0_copyFrom 25 = .ok (.aload_n 1, 1) := by decide +kernel
theorem dX0_copyFrom_26 : decode cX0_copyFrom 26 = .ok (.getfield 52, 3) := by decide +kernel
theorem dX0_copyFrom_29 : decode cX0_copyFrom 29 = .ok (.putfield 52, 3) := by decide +kernel
theorem dX0_copyFrom_32 : decode cX0_copyFrom 32 = .ok (.aload_n 0, 1) := by decide +kernel
theorem dX0_copyFrom_33 : decode cX0_copyFrom 33 = .ok (.aload_n 1, 1) := by decide +kernel
theorem dX0_copyFrom_34 : decode cX0_copyFrom 34 = .ok (.getfield 55, 3) := by decide +kernel
theorem dX0_copyFrom_37 : decode cX0_copyFrom 37 = .ok (.putfield 55, 3) := by decide +kernel
theorem dX0_copyFrom_40 : decode cX0_copyFrom 40 = .ok (.aload_n 0, 1) := by decide +kernel
theorem dX0_copyFrom_41 : decode cX0_copyFrom 41 = .ok (.getfield 12, 3) := by decide +kernel
theorem dX0_copyFrom_44 : decode cX0_copyFrom 44 = .ok (.aload_n 1, 1) := by decide +kernel
theorem dX0_copyFrom_45 : decode cX0_copyFrom 45 = .ok (.getfield 12, 3) := by decide +kernel
theorem dX0_copyFrom_48 : decode cX0_copyFrom 48 = .ok (.invokevirtual 58, 3) := by decide +kernel
theorem dX0_copyFrom_51 : decode cX0_copyFrom 51 = .ok (.aload_n 0, 1) := by decide +kernel
theorem dX0_copyFrom_52 : decode cX0_copyFrom 52 = .ok (.getfield 23, 3) := by decide +kernel
theorem dX0_copyFrom_55 : decode cX0_copyFrom 55 = .ok (.aload_n 1, 1) := by decide +kernel
theorem dX0_copyFrom_56 : decode cX0_copyFrom 56 = .ok (.getfield 23, 3) := by decide +kernel
theorem dX0_copyFrom_59 : decode cX0_copyFrom 59 = .ok (.aload_n 0, 1) := by decide +kernel
theorem dX0_copyFrom_60 : decode cX0_copyFrom 60 = .ok (.getfield 42, 3) := by decide +kernel
theorem dX0_copyFrom_63 : decode cX0_copyFrom 63 = .ok (.invokevirtual 62, 3) := by decide +kernel
theorem dX0_copyFrom_66 : decode cX0_copyFrom 66 = .ok (.aload_n 0, 1) := by decide +kernel
theorem dX0_copyFrom_67 : decode cX0_copyFrom 67 = .ok (.getfield 27, 3) := by decide +kernel
theorem dX0_copyFrom_70 : decode cX0_copyFrom 70 = .ok (.aload_n 1, 1) := by decide +kernel
theorem dX0_copyFrom_71 : decode cX0_copyFrom 71 = .ok (.getfield 27, 3) := by decide +kernel
theorem dX0_copyFrom_74 : decode cX0_copyFrom 74 = .ok (.aload_n 0, 1) := by decide +kernel
theorem dX0_copyFrom_75 : decode cX0_copyFrom 75 = .ok (.getfield 42, 3) := by decide +kernel
theorem dX0_copyFrom_78 : decode cX0_copyFrom 78 = .ok (.invokevirtual 62, 3) := by decide +kernel
theorem dX0_copyFrom_81 : decode cX0_copyFrom 81 = .ok (.aload_n 0, 1) := by decide +kernel
theorem dX0_copyFrom_82 : decode cX0_copyFrom 82 = .ok (.getfield 30, 3) := by decide +kernel
theorem dX0_copyFrom_85 : decode cX0_copyFrom 85 = .ok (.aload_n 1, 1) := by decide +kernel
theorem dX0_copyFrom_86 : decode cX0_copyFrom 86 = .ok (.getfield 30, 3) := by decide +kernel
theorem dX0_copyFrom_89 : decode cX0_copyFrom 89 = .ok (.aload_n 0, 1) := by decide +kernel
theorem dX0_copyFrom_90 : decode cX0_copyFrom 90 = .ok (.getfield 42, 3) := by decide +kernel
theorem dX0_copyFrom_93 : decode cX0_copyFrom 93 = .ok (.invokevirtual 62, 3) := by decide +kernel
theorem dX0_copyFrom_96 : decode cX0_copyFrom 96 = .ok (.aload_n 0, 1) := by decide +kernel
theorem dX0_copyFrom_97 : decode cX0_copyFrom 97 = .ok (.getfield 33, 3) := by decide +kernel
theorem dX0_copyFrom_100 : decode cX0_copyFrom 100 = .ok (.aload_n 1, 1) := by decide +kernel
theorem dX0_copyFrom_101 : decode cX0_copyFrom 101 = .ok (.getfield 33, 3) := by decide +kernel
theorem dX0_copyFrom_104 : decode cX0_copyFrom 104 = .ok (.aload_n 0, 1) := by decide +kernel
theorem dX0_copyFrom_105 : decode cX0_copyFrom 105 = .ok (.getfield 46, 3) := by decide +kernel
theorem dX0_copyFrom_108 : decode cX0_copyFrom 108 = .ok (.invokevirtual 62, 3) := by decide +kernel
theorem dX0_copyFrom_111 : decode cX0_copyFrom 111 = .ok (.aload_n 0, 1) := by decide +kernel
theorem dX0_copyFrom_112 : decode cX0_copyFrom 112 = .ok (.getfield 36, 3) := by decide +kernel
theorem dX0_copyFrom_115 : decode cX0_copyFrom 115 = .ok (.aload_n 1, 1) := by decide +kernel
theorem dX0_copyFrom_116 : decode cX0_copyFrom 116 = .ok (.getfield 36, 3) := by decide +kernel
theorem dX0_copyFrom_119 : decode cX0_copyFrom 119 = .ok (.aload_n 0, 1) := by decide +kernel
theorem dX0_copyFrom_120 : decode cX0_copyFrom 120 = .ok (.getfield 46, 3) := by decide +kernel
theorem dX0_copyFrom_123 : decode cX0_copyFrom 123 = .ok (.invokevirtual 62, 3) := by decide +kernel
theorem dX0_copyFrom_126 : decode cX0_copyFrom 126 = .ok (.aload_n 0, 1) := by decide +kernel
theorem dX0_copyFrom_127 : decode cX0_copyFrom 127 = .ok (.getfield 39, 3) := by decide +kernel
theorem dX0_copyFrom_130 : decode cX0_copyFrom 130 = .ok (.aload_n 1, 1) := by decide +kernel
theorem dX0_copyFrom_131 : decode cX0_copyFrom 131 = .ok (.getfield 39, 3) := by decide +kernel
theorem dX0_copyFrom_134 : decode cX0_copyFrom 134 = .ok (.aload_n 0, 1) := by decide +kernel
theorem dX0_copyFrom_135 : decode cX0_copyFrom 135 = .ok (.getfield 46, 3) := by decide +kernel
theorem dX0_copyFrom_138 : decode cX0_copyFrom 138 = .ok (.invokevirtual 62, 3) := by decide +kernel
theorem dX0_copyFrom_141 : decode cX0_copyFrom 141 = .ok (.return_, 1) := by decide +kernel
set_option maxRecDepth 20000 in
theorem ggX0_isHere_X4_at : GoodIn wsX0_isHere wsX4_at := goodIn_r _ [7, 8, 21] (by decide +kernel) (by decide +kernel)
set_option maxRecDepth 20000 in
theorem gX0_isHere_X4_at : GoodIn wsX0_isHere (wsV RX0 65 RX4 yX4_at wsX4_at) := goodIn_app (goodIn_of _ (by decide +kernel)) ggX0_isHere_X4_at
theorem dX0_isHere_0 : decode cX0_isHere 0 = .ok (.iload_n 1, 1) := by decide +kernel
theorem dX0_isHere_1 : decode cX0_isHere 1 = .ok (.ifCond .lt 27, 3) := by decide +kernel
theorem dX0_isHere_4 : decode cX0_isHere 4 = .ok (.iload_n 1, 1) := by decide +kernel
theorem dX0_isHere_5 : decode cX0_isHere 5 = .ok (.aload_n 0, 1) := by decide +kernel
theorem dX0_isHere_6 : decode cX0_isHere 6 = .ok (.getfield 42, 3) := by decide +kernel
theorem dX0_isHere_9 : decode cX0_isHere 9 = .ok (.if_icmp .ge 19, 3) := by decide +kernel
theorem dX0_isHere_12 : decode cX0_isHere 12 = .ok (.aload_n 0, 1) := by decide +kernel
theorem dX0_isHere_13 : decode cX0_isHere 13 = .ok (.getfield 30, 3) := by decide +kernel
theorem dX0_isHere_16 : decode cX0_isHere 16 = .ok (.iload_n 1, 1) := by decide +kernel
theorem dX0_isHere_17 : decode cX0_isHere 17 = .ok (.invokevirtual 65, 3) := by decide +kernel
theorem dX0_isHere_20 : decode cX0_isHere 20 = .ok (.iconst 1, 1) := by decide +kernel
theorem dX0_isHere_21 : decode cX0_isHere 21 = .ok (.if_icmp .ne 7, 3) := by decide +kernel
theorem dX0_isHere_24 : decode cX0_isHere 24 = .ok (.iconst 1, 1) := by decide +kernel
theorem dX0_isHere_25 : decode cX0_isHere 25 = .ok (.goto 4, 3) := by decide +kernel
theorem dX0_isHere_28 : decode cX0_isHere 28 = .ok (.iconst 0, 1) := by decide +kernel
theorem dX0_isHere_29 : decode cX0_isHere 29 = .ok (.ireturn, 1) := by decide +kernel
set_option maxRecDepth 20000 in
theorem ggX0_campersHere_X4_at : GoodIn wsX0_campersHere wsX4_at := goodIn_r _ [7, 8, 21] (by decide +kernel) (by decide +kernel)
set_option maxRecDepth 20000 in
theorem gX0_campersHere_X4_at : GoodIn wsX0_campersHere (wsV RX0 65 RX4 yX4_at wsX4_at) := goodIn_app (goodIn_of _ (by decide +kernel)) ggX0_campersHere_X4_at
theorem dX0_campersHere_0 : decode cX0_campersHere 0 = .ok (.iconst 0, 1) := by decide +kernel
theorem dX0_campersHere_1 : decode cX0_campersHere 1 = .ok (.istore_n 1, 1) := by decide +kernel
theorem dX0_campersHere_2 : decode cX0_campersHere 2 = .ok (.iconst 0, 1) := by decide +kernel
theorem dX0_campersHere_3 : decode cX0_campersHere 3 = .ok (.istore_n 2, 1) := by decide +kernel
theorem dX0_campersHere_4 : decode cX0_campersHere 4 = .ok (.iload_n 2, 1) := by decide +kernel
theorem dX0_campersHere_5 : decode cX0_campersHere 5 = .ok (.aload_n 0, 1) := by decide +kernel
theorem dX0_campersHere_6 : decode cX0_campersHere 6 = .ok (.getfield 42, 3) := by decide +kernel
theorem dX0_campersHere_9 : decode cX0_campersHere 9 = .ok (.if_icmp .ge 20, 3) := by decide +kernel
theorem dX0_campersHere_12 : decode cX0_campersHere 12 = .ok (.iload_n 1, 1) := by decide +kernel
theorem dX0_campersHere_13 : decode cX0_campersHere 13 = .ok (.aload_n 0, 1) := by decide +kernel
theorem dX0_campersHere_14 : decode cX0_campersHere 14 = .ok (.getfield 30, 3) := by decide +kernel
theorem dX0_campersHere_17 : decode cX0_campersHere 17 = .ok (.iload_n 2, 1) := by decide +kernel
theorem dX0_campersHere_18 : decode cX0_campersHere 18 = .ok (.invokevirtual 65, 3) := by decide +kernel
theorem dX0_campersHere_21 : decode cX0_campersHere 21 = .ok (.iadd, 1) := by decide +kernel
theorem dX0_campersHere_22 : decode cX0_campersHere 22 = .ok (.istore_n 1, 1) := by decide +kernel
theorem dX0_campersHere_23 : decode cX0_campersHere 23 = .ok (.iinc 2 1, 3) := by decide +kernel
theorem dX0_campersHere_26 : decode cX0_campersHere 26 = .ok (.goto (-22), 3) := by decide +kernel
theorem dX0_campersHere_29 : decode cX0_campersHere 29 = .ok (.iload_n 1, 1) := by decide +kernel
theorem dX0_campersHere_30 : decode cX0_campersHere 30 = .ok (.ireturn, 1) := by decide +kernel
set_option maxRecDepth 20000 in
theorem ggX0_campersWithMorePlots_X3_manyOf : GoodIn wsX0_campersWithMorePlots wsX3_manyOf := goodIn_r _ [7, 8, 9, 10, 11, 12, 13, 14, 15, 28, 29, 30, 31, 32, 33] (by decide +kernel) (by decide +kernel)
set_option maxRecDepth 20000 in
theorem gX0_campersWithMorePlots_X3_manyOf : GoodIn wsX0_campersWithMorePlots (wsV RX0 69 RX3 yX3_manyOf wsX3_manyOf) := goodIn_app (goodIn_of _ (by decide +kernel)) ggX0_campersWithMorePlots_X3_manyOf
theorem dX0_campersWithMorePlots_0 : decode cX0_campersWithMorePlots 0 = .ok (.iconst 0, 1) := by decide +kernel
theorem dX0_campersWithMorePlots_1 : decode cX0_campersWithMorePlots 1 = .ok (.istore_n 1, 1) := by decide +kernel
theorem dX0_campersWithMorePlots_2 : decode cX0_campersWithMorePlots 2 = .ok (.iconst 0, 1) := by decide +kernel
theorem dX0_campersWithMorePlots_3 : decode cX0_campersWithMorePlots 3 = .ok (.istore_n 2, 1) := by decide +kernel
theorem dX0_campersWithMorePlots_4 : decode cX0_campersWithMorePlots 4 = .ok (.iload_n 2, 1) := by decide +kernel
theorem dX0_campersWithMorePlots_5 : decode cX0_campersWithMorePlots 5 = .ok (.aload_n 0, 1) := by decide +kernel
theorem dX0_campersWithMorePlots_6 : decode cX0_campersWithMorePlots 6 = .ok (.getfield 42, 3) := by decide +kernel
theorem dX0_campersWithMorePlots_9 : decode cX0_campersWithMorePlots 9 = .ok (.if_icmp .ge 24, 3) := by decide +kernel
theorem dX0_campersWithMorePlots_12 : decode cX0_campersWithMorePlots 12 = .ok (.aload_n 0, 1) := by decide +kernel
theorem dX0_campersWithMorePlots_13 : decode cX0_campersWithMorePlots 13 = .ok (.getfield 12, 3) := by decide +kernel
theorem dX0_campersWithMorePlots_16 : decode cX0_campersWithMorePlots 16 = .ok (.iload_n 2, 1) := by decide +kernel
theorem dX0_campersWithMorePlots_17 : decode cX0_campersWithMorePlots 17 = .ok (.invokevirtual 69, 3) := by decide +kernel
theorem dX0_campersWithMorePlots_20 : decode cX0_campersWithMorePlots 20 = .ok (.iconst 1, 1) := by decide +kernel
theorem dX0_campersWithMorePlots_21 : decode cX0_campersWithMorePlots 21 = .ok (.if_icmp .le 6, 3) := by decide +kernel
theorem dX0_campersWithMorePlots_24 : decode cX0_campersWithMorePlots 24 = .ok (.iinc 1 1, 3) := by decide +kernel
theorem dX0_campersWithMorePlots_27 : decode cX0_campersWithMorePlots 27 = .ok (.iinc 2 1, 3) := by decide +kernel
theorem dX0_campersWithMorePlots_30 : decode cX0_campersWithMorePlots 30 = .ok (.goto (-26), 3) := by decide +kernel
theorem dX0_campersWithMorePlots_33 : decode cX0_campersWithMorePlots 33 = .ok (.iload_n 1, 1) := by decide +kernel
theorem dX0_campersWithMorePlots_34 : decode cX0_campersWithMorePlots 34 = .ok (.ireturn, 1) := by decide +kernel
set_option maxRecDepth 20000 in
theorem ggX0_isTentIn_X0_isHere : GoodIn wsX0_isTentIn wsX0_isHere := goodIn_r _ [8, 9, 10, 11, 12, 13, 14, 15, 16, 31, 32, 33, 34, 35, 36, 37, 38, 39, 40, 41, 42, 43] (by decide +kernel) (by decide +kernel)
set_option maxRecDepth 20000 in
theorem gX0_isTentIn_X0_isHere : GoodIn wsX0_isTentIn (wsV RX0 72 RX0 yX0_isHere wsX0_isHere) := goodIn_app (goodIn_of _ (by decide +kernel)) ggX0_isTentIn_X0_isHere
set_option maxRecDepth 20000 in
theorem ggX0_isTentIn_X4_at : GoodIn wsX0_isTentIn wsX4_at := goodIn_r _ [15, 16, 43] (by decide +kernel) (by decide +kernel)
set_option maxRecDepth 20000 in
theorem gX0_isTentIn_X4_at : GoodIn wsX0_isTentIn (wsV RX0 65 RX4 yX4_at wsX4_at) := goodIn_app (goodIn_of _ (by decide +kernel)) ggX0_isTentIn_X4_at
set_option maxRecDepth 20000 in
theorem ggX0_isTentIn_X3_has : GoodIn wsX0_isTentIn wsX3_has := goodIn_r _ [21, 22, 23, 24, 25, 12, 13, 14, 15, 16, 26, 27, 28, 29, 30, 44, 45, 46, 47, 48, 43] (by decide +kernel) (by decide +kernel)
set_option maxRecDepth 20000 in
theorem gX0_isTentIn_X3_has : GoodIn wsX0_isTentIn (wsV RX0 76 RX3 yX3_has wsX3_has) := goodIn_app (goodIn_of _ (by decide +kernel)) ggX0_isTentIn_X3_has
theorem dX0_isTentIn_0 : decode cX0_isTentIn 0 = .ok (.aload_n 0, 1) := by decide +kernel
theorem dX0_isTentIn_1 : decode cX0_isTentIn 1 = .ok (.iload_n 2, 1) := by decide +kernel
theorem dX0_isTentIn_2 : decode cX0_isTentIn 2 = .ok (.invokevirtual 72, 3) := by decide +kernel
theorem dX0_isTentIn_5 : decode cX0_isTentIn 5 = .ok (.ifCond .eq 34, 3) := by decide +kernel
theorem dX0_isTentIn_8 : decode cX0_isTentIn 8 = .ok (.aload_n 0, 1) := by decide +kernel
theorem dX0_isTentIn_9 : decode cX0_isTentIn 9 = .ok (.getfield 12, 3) := by decide +kernel
theorem dX0_isTentIn_12 : decode cX0_isTentIn 12 = .ok (.iload_n 1, 1) := by decide +kernel
theorem dX0_isTentIn_13 : decode cX0_isTentIn 13 = .ok (.aload_n 0, 1) := by decide +kernel
theorem dX0_isTentIn_14 : decode cX0_isTentIn 14 = .ok (.getfield 23, 3) := by decide +kernel
theorem dX0_isTentIn_17 : decode cX0_isTentIn 17 = .ok (.iload_n 2, 1) := by decide +kernel
theorem dX0_isTentIn_18 : decode cX0_isTentIn 18 = .ok (.invokevirtual 65, 3) := by decide +kernel
theorem dX0_isTentIn_21 : decode cX0_isTentIn 21 = .ok (.aload_n 0, 1) := by decide +kernel
theorem dX0_isTentIn_22 : decode cX0_isTentIn 22 = .ok (.getfield 27, 3) := by decide +kernel
theorem dX0_isTentIn_25 : decode cX0_isTentIn 25 = .ok (.iload_n 2, 1) := by decide +kernel
theorem dX0_isTentIn_26 : decode cX0_isTentIn 26 = .ok (.invokevirtual 65, 3) := by decide +kernel
theorem dX0_isTentIn_29 : decode cX0_isTentIn 29 = .ok (.invokevirtual 76, 3) := by decide +kernel
theorem dX0_isTentIn_32 : decode cX0_isTentIn 32 = .ok (.ifCond .eq 7, 3) := by decide +kernel
theorem dX0_isTentIn_35 : decode cX0_isTentIn 35 = .ok (.iconst 1, 1) := by decide +kernel
theorem dX0_isTentIn_36 : decode cX0_isTentIn 36 = .ok (.goto 4, 3) := by decide +kernel
theorem dX0_isTentIn_39 : decode cX0_isTentIn 39 = .ok (.iconst 0, 1) := by decide +kernel
theorem dX0_isTentIn_40 : decode cX0_isTentIn 40 = .ok (.ireturn, 1) := by decide +kernel
set_option maxRecDepth 20000 in
theorem ggX0_depthForNewcomer_X3_find : GoodIn wsX0_depthForNewcomer wsX3_find := goodIn_r _ [9, 10, 11, 12, 13, 8, 14, 15, 16, 17, 18, 19, 20, 21, 22, 23, 24, 25, 26, 27, 28, 71, 72, 73, 74, 75, 76] (by decide +kernel) (by decide +kernel)
set_option maxRecDepth 20000 in
theorem gX0_depthForNewcomer_X3_find : GoodIn wsX0_depthForNewcomer (wsV RX0 80 RX3 yX3_find wsX3_find) := goodIn_app (goodIn_of _ (by decide +kernel)) ggX0_depthForNewcomer_X3_find
set_option maxRecDepth 20000 in
theorem ggX0_depthForNewcomer_X3_ownerOf : GoodIn wsX0_depthForNewcomer wsX3_ownerOf := goodIn_r _ [32, 33, 18, 19, 20, 21, 22, 23, 71, 72, 73, 74, 75, 76] (by decide +kernel) (by decide +kernel)
set_option maxRecDepth 20000 in
theorem gX0_depthForNewcomer_X3_ownerOf : GoodIn wsX0_depthForNewcomer (wsV RX0 84 RX3 yX3_ownerOf wsX3_ownerOf) := goodIn_app (goodIn_of _ (by decide +kernel)) ggX0_depthForNewcomer_X3_ownerOf
set_option maxRecDepth 20000 in
theorem ggX0_depthForNewcomer_X3_depthOf : GoodIn wsX0_depthForNewcomer wsX3_depthOf := goodIn_r _ [37, 17, 18, 19, 20, 21, 22, 23, 71, 72, 73, 74, 75, 76] (by decide +kernel) (by decide +kernel)
set_option maxRecDepth 20000 in
theorem gX0_depthForNewcomer_X3_depthOf : GoodIn wsX0_depthForNewcomer (wsV RX0 87 RX3 yX3_depthOf wsX3_depthOf) := goodIn_app (goodIn_of _ (by decide +kernel)) ggX0_depthForNewcomer_X3_depthOf
set_option maxRecDepth 20000 in
theorem ggX0_depthForNewcomer_X0_isTentIn : GoodIn wsX0_depthForNewcomer wsX0_isTentIn := goodIn_r _ [42, 2, 3, 4, 43, 44, 45, 41, 46, 1, 47, 48, 19, 20, 21, 22, 23, 49, 12, 13, 8, 14, 15, 16, 17, 18, 24, 25, 26, 27, 28, 59, 60, 61, 62, 63, 64, 65, 66, 67, 68, 69, 70, 76, 71, 72, 73, 74, 75] (by decide +kernel) (by decide +kernel)
set_option maxRecDepth 20000 in
theorem gX0_depthForNewcomer_X0_isTentIn : GoodIn wsX0_depthForNewcomer (wsV RX0 90 RX0 yX0_isTentIn wsX0_isTentIn) := goodIn_app (goodIn_of _ (by decide +kernel)) ggX0_depthForNewcomer_X0_isTentIn
set_option maxRecDepth 20000 in
theorem ggX0_depthForNewcomer_X4_at : GoodIn wsX0_depthForNewcomer wsX4_at := goodIn_r _ [22, 23, 76] (by decide +kernel) (by decide +kernel)
set_option maxRecDepth 20000 in
theorem gX0_depthForNewcomer_X4_at : GoodIn wsX0_depthForNewcomer (wsV RX0 65 RX4 yX4_at wsX4_at) := goodIn_app (goodIn_of _ (by decide +kernel)) ggX0_depthForNewcomer_X4_at
set_option maxRecDepth 20000 in
theorem ggX0_depthForNewcomer_X0_isInPart : GoodIn wsX0_depthForNewcomer wsX0_isInPart := goodIn_r _ [52, 53, 25, 54, 55, 24, 26, 56, 57, 58, 27, 28] (by decide +kernel) (by decide +kernel)
set_option maxRecDepth 20000 in
theorem gX0_depthForNewcomer_X0_isInPart : GoodIn wsX0_depthForNewcomer (va_wsS RX0 94 yX0_isInPart wsX0_isInPart) := goodIn_app (goodIn_of _ (by decide +kernel)) ggX0_depthForNewcomer_X0_isInPart
theorem dX0_depthForNewcomer_0 : decode cX0_depthForNewcomer 0 = .ok (.aload_n 0, 1) := by decide +kernel
theorem dX0_depthForNewcomer_1 : decode cX0_depthForNewcomer 1 = .ok (.getfield 42, 3) := by decide +kernel
theorem dX0_depthForNewcomer_4 : decode cX0_depthForNewcomer 4 = .ok (.bipush 16, 2) := by decide +kernel
theorem dX0_depthForNewcomer_6 : decode cX0_depthForNewcomer 6 = .ok (.if_icmp .lt 6, 3) := by decide +kernel
theorem dX0_depthForNewcomer_9 : decode cX0_depthForNewcomer 9 = .ok (.bipush (-3), 2) := by decide +kernel
theorem dX0_depthForNewcomer_11 : decode cX0_depthForNewcomer 11 = .ok (.ireturn, 1) := by decide +kernel
theorem dX0_depthForNewcomer_12 : decode cX0_depthForNewcomer 12 = .ok (.aload_n 0, 1) := by decide +kernel
theorem dX0_depthForNewcomer_13 : decode cX0_depthForNewcomer 13 = .ok (.getfield 12, 3) := by decide +kernel
theorem dX0_depthForNewcomer_16 : decode cX0_depthForNewcomer 16 = .ok (.iload_n 1, 1) := by decide +kernel
theorem dX0_depthForNewcomer_17 : decode cX0_depthForNewcomer 17 = .ok (.iload_n 2, 1) := by decide +kernel
theorem dX0_depthForNewcomer_18 : decode cX0_depthForNewcomer 18 = .ok (.invokevirtual 80, 3) := by decide +kernel
theorem dX0_depthForNewcomer_21 : decode cX0_depthForNewcomer 21 = .ok (.istore_n 3, 1) := by decide +kernel
theorem dX0_depthForNewcomer_22 : decode cX0_depthForNewcomer 22 = .ok (.aload_n 0, 1) := by decide +kernel
theorem dX0_depthForNewcomer_23 : decode cX0_depthForNewcomer 23 = .ok (.getfield 12, 3) := by decide +kernel
theorem dX0_depthForNewcomer_26 : decode cX0_depthForNewcomer 26 = .ok (.iload_n 3, 1) := by decide +kernel
theorem dX0_depthForNewcomer_27 : decode cX0_depthForNewcomer 27 = .ok (.invokevirtual 84, 3) := by decide +kernel
theorem dX0_depthForNewcomer_30 : decode cX0_depthForNewcomer 30 = .ok (.istore 4, 2) := by decide +kernel
theorem dX0_depthForNewcomer_32 : decode cX0_depthForNewcomer 32 = .ok (.aload_n 0, 1) := by decide +kernel
theorem dX0_depthForNewcomer_33 : decode cX0_depthForNewcomer 33 = .ok (.getfield 12, 3) := by decide +kernel
theorem dX0_depthForNewcomer_36 : decode cX0_depthForNewcomer 36 = .ok (.iload_n 3, 1) := by decide +kernel
theorem dX0_depthForNewcomer_37 : decode cX0_depthForNewcomer 37 = .ok (.invokevirtual 87, 3) := by decide +kernel
theorem dX0_depthForNewcomer_40 : decode cX0_depthForNewcomer 40 = .ok (.istore 5, 2) := by decide +kernel
theorem dX0_depthForNewcomer_42 : decode cX0_depthForNewcomer 42 = .ok (.iload 4, 2) := by decide +kernel
theorem dX0_depthForNewcomer_44 : decode cX0_depthForNewcomer 44 = .ok (.iconst (-1), 1) := by decide +kernel
theorem dX0_depthForNewcomer_45 : decode cX0_depthForNewcomer 45 = .ok (.if_icmp .ne 6, 3) := by decide +kernel
theorem dX0_depthForNewcomer_48 : decode cX0_depthForNewcomer 48 = .ok (.iload 5, 2) := by decide +kernel
theorem dX0_depthForNewcomer_50 : decode cX0_depthForNewcomer 50 = .ok (.ireturn, 1) := by decide +kernel
theorem dX0_depthForNewcomer_51 : decode cX0_depthForNewcomer 51 = .ok (.aload_n 0, 1) := by decide +kernel
theorem dX0_depthForNewcomer_52 : decode cX0_depthForNewcomer 52 = .ok (.iload_n 3, 1) := by decide +kernel
theorem dX0_depthForNewcomer_53 : decode cX0_depthForNewcomer 53 = .ok (.iload 4, 2) := by decide +kernel
theorem dX0_depthForNewcomer_55 : decode cX0_depthForNewcomer 55 = .ok (.invokevirtual 90, 3) := by decide +kernel
theorem dX0_depthForNewcomer_58 : decode cX0_depthForNewcomer 58 = .ok (.istore 6, 2) := by decide +kernel
theorem dX0_depthForNewcomer_60 : decode cX0_depthForNewcomer 60 = .ok (.iload 5, 2) := by decide +kernel
theorem dX0_depthForNewcomer_62 : decode cX0_depthForNewcomer 62 = .ok (.iconst 1, 1) := by decide +kernel
theorem dX0_depthForNewcomer_63 : decode cX0_depthForNewcomer 63 = .ok (.iadd, 1) := by decide +kernel
theorem dX0_depthForNewcomer_64 : decode cX0_depthForNewcomer 64 = .ok (.istore 7, 2) := by decide +kernel
theorem dX0_depthForNewcomer_66 : decode cX0_depthForNewcomer 66 = .ok (.iload 7, 2) := by decide +kernel
theorem dX0_depthForNewcomer_68 : decode cX0_depthForNewcomer 68 = .ok (.bipush 12, 2) := by decide +kernel
theorem dX0_depthForNewcomer_70 : decode cX0_depthForNewcomer 70 = .ok (.if_icmp .gt 45, 3) := by decide +kernel
theorem dX0_depthForNewcomer_73 : decode cX0_depthForNewcomer 73 = .ok (.iload 6, 2) := by decide +kernel
theorem dX0_depthForNewcomer_75 : decode cX0_depthForNewcomer 75 = .ok (.ifCond .eq 31, 3) := by decide +kernel
theorem dX0_depthForNewcomer_78 : decode cX0_depthForNewcomer 78 = .ok (.aload_n 0, 1) := by decide +kernel
theorem dX0_depthForNewcomer_79 : decode cX0_depthForNewcomer 79 = .ok (.getfield 23, 3) := by decide +kernel
theorem dX0_depthForNewcomer_82 : decode cX0_depthForNewcomer 82 = .ok (.iload 4, 2) := by decide +kernel
theorem dX0_depthForNewcomer_84 : decode cX0_depthForNewcomer 84 = .ok (.invokevirtual 65, 3) := by decide +kernel
theorem dX0_depthForNewcomer_87 : decode cX0_depthForNewcomer 87 = .ok (.aload_n 0, 1) := by decide +kernel
theorem dX0_depthForNewcomer_88 : decode cX0_depthForNewcomer 88 = .ok (.getfield 27, 3) := by decide +kernel
theorem dX0_depthForNewcomer_91 : decode cX0_depthForNewcomer 91 = .ok (.iload 4, 2) := by decide +kernel
theorem dX0_depthForNewcomer_93 : decode cX0_depthForNewcomer 93 = .ok (.invokevirtual 65, 3) := by decide +kernel
theorem dX0_depthForNewcomer_96 : decode cX0_depthForNewcomer 96 = .ok (.iload_n 1, 1) := by decide +kernel
theorem dX0_depthForNewcomer_97 : decode cX0_depthForNewcomer 97 = .ok (.iload_n 2, 1) := by decide +kernel
theorem dX0_depthForNewcomer_98 : decode cX0_depthForNewcomer 98 = .ok (.iload 7, 2) := by decide +kernel
theorem dX0_depthForNewcomer_100 : decode cX0_depthForNewcomer 100 = .ok (.invokestatic 94, 3) := by decide +kernel
theorem dX0_depthForNewcomer_103 : decode cX0_depthForNewcomer 103 = .ok (.ifCond .ne 6, 3) := by decide +kernel
theorem dX0_depthForNewcomer_106 : decode cX0_depthForNewcomer 106 = .ok (.iload 7, 2) := by decide +kernel
theorem dX0_depthForNewcomer_108 : decode cX0_depthForNewcomer 108 = .ok (.ireturn, 1) := by decide +kernel
theorem dX0_depthForNewcomer_109 : decode cX0_depthForNewcomer 109 = .ok (.iinc 7 1, 3) := by decide +kernel
theorem dX0_depthForNewcomer_112 : decode cX0_depthForNewcomer 112 = .ok (.goto (-46), 3) := by decide +kernel
theorem dX0_depthForNewcomer_115 : decode cX0_depthForNewcomer 115 = .ok (.bipush (-4), 2) := by decide +kernel
theorem dX0_depthForNewcomer_117 : decode cX0_depthForNewcomer 117 = .ok (.ireturn, 1) := by decide +kernel
set_option maxRecDepth 20000 in
theorem ggX0_isInPart_X5_partX0 : GoodIn wsX0_isInPart wsX5_partX0 := goodIn_r _ [3, 4, 5, 2, 6] (by decide +kernel) (by decide +kernel)
set_option maxRecDepth 20000 in
theorem gX0_isInPart_X5_partX0_n98 : GoodIn wsX0_isInPart (wsX5_partX0) := ggX0_isInPart_X5_partX0
set_option maxRecDepth 20000 in
theorem ggX0_isInPart_X5_partY0 : GoodIn wsX0_isInPart wsX5_partY0 := goodIn_r _ [8, 9, 10, 2, 11] (by decide +kernel) (by decide +kernel)
set_option maxRecDepth 20000 in
theorem gX0_isInPart_X5_partY0_n101 : GoodIn wsX0_isInPart (wsX5_partY0) := ggX0_isInPart_X5_partY0
theorem dX0_isInPart_0 : decode cX0_isInPart 0 = .ok (.iload_n 0, 1) := by decide +kernel
theorem dX0_isInPart_1 : decode cX0_isInPart 1 = .ok (.iload 4, 2) := by decide +kernel
theorem dX0_isInPart_3 : decode cX0_isInPart 3 = .ok (.invokestatic 98, 3) := by decide +kernel
theorem dX0_isInPart_6 : decode cX0_isInPart 6 = .ok (.iload_n 2, 1) := by decide +kernel
theorem dX0_isInPart_7 : decode cX0_isInPart 7 = .ok (.iload 4, 2) := by decide +kernel
theorem dX0_isInPart_9 : decode cX0_isInPart 9 = .ok (.invokestatic 98, 3) := by decide +kernel
theorem dX0_isInPart_12 : decode cX0_isInPart 12 = .ok (.if_icmp .ne 22, 3) := by decide +kernel
theorem dX0_isInPart_15 : decode cX0_isInPart 15 = .ok (.iload_n 1, 1) := by decide +kernel
theorem dX0_isInPart_16 : decode cX0_isInPart 16 = .ok (.iload 4, 2) := by decide +kernel
theorem dX0_isInPart_18 : decode cX0_isInPart 18 = .ok (.invokestatic 101, 3) := by decide +kernel
theorem dX0_isInPart_21 : decode cX0_isInPart 21 = .ok (.iload_n 3, 1) := by decide +kernel
theorem dX0_isInPart_22 : decode cX0_isInPart 22 = .ok (.iload 4, 2) := by decide +kernel
theorem dX0_isInPart_24 : decode cX0_isInPart 24 = .ok (.invokestatic 101, 3) := by decide +kernel
theorem dX0_isInPart_27 : decode cX0_isInPart 27 = .ok (.if_icmp .ne 7, 3) := by decide +kernel
theorem dX0_isInPart_30 : decode cX0_isInPart 30 = .ok (.iconst 1, 1) := by decide +kernel
theorem dX0_isInPart_31 : decode cX0_isInPart 31 = .ok (.goto 4, 3) := by decide +kernel
theorem dX0_isInPart_34 : decode cX0_isInPart 34 = .ok (.iconst 0, 1) := by decide +kernel
theorem dX0_isInPart_35 : decode cX0_isInPart 35 = .ok (.ireturn, 1) := by decide +kernel
set_option maxRecDepth 20000 in
theorem ggX0_settle_X3_find : GoodIn wsX0_settle wsX3_find := goodIn_r _ [9, 10, 11, 12, 13, 8, 14, 15, 16, 17, 18, 19, 20, 21, 22, 23, 24, 25, 26, 27, 28, 80, 81, 82, 83, 84, 85] (by decide +kernel) (by decide +kernel)
set_option maxRecDepth 20000 in
theorem gX0_settle_X3_find : GoodIn wsX0_settle (wsV RX0 80 RX3 yX3_find wsX3_find) := goodIn_app (goodIn_of _ (by decide +kernel)) ggX0_settle_X3_find
set_option maxRecDepth 20000 in
theorem ggX0_settle_X3_depthOf : GoodIn wsX0_settle wsX3_depthOf := goodIn_r _ [32, 17, 18, 19, 20, 21, 22, 23, 80, 81, 82, 83, 84, 85] (by decide +kernel) (by decide +kernel)
set_option maxRecDepth 20000 in
theorem gX0_settle_X3_depthOf : GoodIn wsX0_settle (wsV RX0 87 RX3 yX3_depthOf wsX3_depthOf) := goodIn_app (goodIn_of _ (by decide +kernel)) ggX0_settle_X3_depthOf
set_option maxRecDepth 20000 in
theorem ggX0_settle_X3_halveDown : GoodIn wsX0_settle wsX3_halveDown := goodIn_r _ [36, 37, 17, 18, 19, 20, 21, 22, 23, 38, 25, 39, 40, 24, 26, 41, 42, 43, 44, 45, 27, 28, 46, 47, 48, 49, 50, 8, 51, 10, 52, 53, 54, 55, 15, 16, 56, 57, 58, 59, 80, 81, 82, 83, 84, 85] (by decide +kernel) (by decide +kernel)
set_option maxRecDepth 20000 in
theorem gX0_settle_X3_halveDown : GoodIn wsX0_settle (wsV RX0 104 RX3 yX3_halveDown wsX3_halveDown) := goodIn_app (goodIn_of _ (by decide +kernel)) ggX0_settle_X3_halveDown
set_option maxRecDepth 20000 in
theorem ggX0_settle_X4_put : GoodIn wsX0_settle wsX4_put := goodIn_r _ [59, 23, 85] (by decide +kernel) (by decide +kernel)
set_option maxRecDepth 20000 in
theorem gX0_settle_X4_put : GoodIn wsX0_settle (wsV RX0 108 RX4 yX4_put wsX4_put) := goodIn_app (goodIn_of _ (by decide +kernel)) ggX0_settle_X4_put
set_option maxRecDepth 20000 in
theorem ggX0_settle_X0_pitch : GoodIn wsX0_settle wsX0_pitch := goodIn_r _ [65, 66, 67, 60, 57, 58, 21, 59, 23, 68, 69, 70, 71, 72, 73, 74, 75, 76, 77, 78, 79, 85] (by decide +kernel) (by decide +kernel)
set_option maxRecDepth 20000 in
theorem gX0_settle_X0_pitch : GoodIn wsX0_settle (wsV RX0 112 RX0 yX0_pitch wsX0_pitch) := goodIn_app (goodIn_of _ (by decide +kernel)) ggX0_settle_X0_pitch
theorem dX0_settle_0 : decode cX0_settle 0 = .ok (.aload_n 0, 1) := by decide +kernel
theorem dX0_settle_1 : decode cX0_settle 1 = .ok (.getfield 42, 3) := by decide +kernel
theorem dX0_settle_4 : decode cX0_settle 4 = .ok (.istore 4, 2) := by decide +kernel
theorem dX0_settle_6 : decode cX0_settle 6 = .ok (.aload_n 0, 1) := by decide +kernel
theorem dX0_settle_7 : decode cX0_settle 7 = .ok (.getfield 12, 3) := by decide +kernel
theorem dX0_settle_10 : decode cX0_settle 10 = .ok (.iload_n 1, 1) := by decide +kernel
theorem dX0_settle_11 : decode cX0_settle 11 = .ok (.iload_n 2, 1) := by decide +kernel
theorem dX0_settle_12 : decode cX0_settle 12 = .ok (.invokevirtual 80, 3) := by decide +kernel
theorem dX0_settle_15 : decode cX0_settle 15 = .ok (.istore 5, 2) := by decide +kernel
theorem dX0_settle_17 : decode cX0_settle 17 = .ok (.aload_n 0, 1) := by decide +kernel
theorem dX0_settle_18 : decode cX0_settle 18 = .ok (.dup, 1) := by decide +kernel
theorem dX0_settle_19 : decode cX0_settle 19 = .ok (.getfield 49, 3) := by decide +kernel
theorem dX0_settle_22 : decode cX0_settle 22 = .ok (.iload_n 3, 1) := by decide +kernel
theorem dX0_settle_23 : decode cX0_settle 23 = .ok (.aload_n 0, 1) := by decide +kernel
theorem dX0_settle_24 : decode cX0_settle 24 = .ok (.getfield 12, 3) := by decide +kernel
theorem dX0_settle_27 : decode cX0_settle 27 = .ok (.iload 5, 2) := by decide +kernel
theorem dX0_settle_29 : decode cX0_settle 29 = .ok (.invokevirtual 87, 3) := by decide +kernel
theorem dX0_settle_32 : decode cX0_settle 32 = .ok (.isub, 1) := by decide +kernel
theorem dX0_settle_33 : decode cX0_settle 33 = .ok (.iadd, 1) := by decide +kernel
theorem dX0_settle_34 : decode cX0_settle 34 = .ok (.putfield 49, 3) := by decide +kernel
theorem dX0_settle_37 : decode cX0_settle 37 = .ok (.aload_n 0, 1) := by decide +kernel
theorem dX0_settle_38 : decode cX0_settle 38 = .ok (.getfield 12, 3) := by decide +kernel
theorem dX0_settle_41 : decode cX0_settle 41 = .ok (.iload 5, 2) := by decide +kernel
theorem dX0_settle_43 : decode cX0_settle 43 = .ok (.iload_n 1, 1) := by decide +kernel
theorem dX0_settle_44 : decode cX0_settle 44 = .ok (.iload_n 2, 1) := by decide +kernel
theorem dX0_settle_45 : decode cX0_settle 45 = .ok (.iload_n 3, 1) := by decide +kernel
theorem dX0_settle_46 : decode cX0_settle 46 = .ok (.iload 4, 2) := by decide +kernel
theorem dX0_settle_48 : decode cX0_settle 48 = .ok (.invokevirtual 104, 3) := by decide +kernel
theorem dX0_settle_51 : decode cX0_settle 51 = .ok (.aload_n 0, 1) := by decide +kernel
theorem dX0_settle_52 : decode cX0_settle 52 = .ok (.getfield 30, 3) := by decide +kernel
theorem dX0_settle_55 : decode cX0_settle 55 = .ok (.iload 4, 2) := by decide +kernel
theorem dX0_settle_57 : decode cX0_settle 57 = .ok (.iconst 1, 1) := by decide +kernel
theorem dX0_settle_58 : decode cX0_settle 58 = .ok (.invokevirtual 108, 3) := by decide +kernel
theorem dX0_settle_61 : decode cX0_settle 61 = .ok (.aload_n 0, 1) := by decide +kernel
theorem dX0_settle_62 : decode cX0_settle 62 = .ok (.iload 4, 2) := by decide +kernel
theorem dX0_settle_64 : decode cX0_settle 64 = .ok (.iload_n 1, 1) := by decide +kernel
theorem dX0_settle_65 : decode cX0_settle 65 = .ok (.iload_n 2, 1) := by decide +kernel
theorem dX0_settle_66 : decode cX0_settle 66 = .ok (.invokevirtual 112, 3) := by decide +kernel
theorem dX0_settle_69 : decode cX0_settle 69 = .ok (.aload_n 0, 1) := by decide +kernel
theorem dX0_settle_70 : decode cX0_settle 70 = .ok (.iload 4, 2) := by decide +kernel
theorem dX0_settle_72 : decode cX0_settle 72 = .ok (.iconst 1, 1) := by decide +kernel
theorem dX0_settle_73 : decode cX0_settle 73 = .ok (.iadd, 1) := by decide +kernel
theorem dX0_settle_74 : decode cX0_settle 74 = .ok (.putfield 42, 3) := by decide +kernel
theorem dX0_settle_77 : decode cX0_settle 77 = .ok (.iload 4, 2) := by decide +kernel
theorem dX0_settle_79 : decode cX0_settle 79 = .ok (.ireturn, 1) := by decide +kernel
set_option maxRecDepth 20000 in
theorem ggX0_pitch_X4_put : GoodIn wsX0_pitch wsX4_put := goodIn_r _ [7, 8, 21] (by decide +kernel) (by decide +kernel)
set_option maxRecDepth 20000 in
theorem gX0_pitch_X4_put : GoodIn wsX0_pitch (wsV RX0 108 RX4 yX4_put wsX4_put) := goodIn_app (goodIn_of _ (by decide +kernel)) ggX0_pitch_X4_put
theorem dX0_pitch_0 : decode cX0_pitch 0 = .ok (.aload_n 0, 1) := by decide +kernel
theorem dX0_pitch_1 : decode cX0_pitch 1 = .ok (.getfield 23, 3) := by decide +kernel
theorem dX0_pitch_4 : decode cX0_pitch 4 = .ok (.iload_n 1, 1) := by decide +kernel
theorem dX0_pitch_5 : decode cX0_pitch 5 = .ok (.iload_n 2, 1) := by decide +kernel
theorem dX0_pitch_6 : decode cX0_pitch 6 = .ok (.invokevirtual 108, 3) := by decide +kernel
theorem dX0_pitch_9 : decode cX0_pitch 9 = .ok (.aload_n 0, 1) := by decide +kernel
theorem dX0_pitch_10 : decode cX0_pitch 10 = .ok (.getfield 27, 3) := by decide +kernel
theorem dX0_pitch_13 : decode cX0_pitch 13 = .ok (.iload_n 1, 1) := by decide +kernel
theorem dX0_pitch_14 : decode cX0_pitch 14 = .ok (.iload_n 3, 1) := by decide +kernel
theorem dX0_pitch_15 : decode cX0_pitch 15 = .ok (.invokevirtual 108, 3) := by decide +kernel
theorem dX0_pitch_18 : decode cX0_pitch 18 = .ok (.return_, 1) := by decide +kernel
set_option maxRecDepth 20000 in
theorem ggX0_sendAway_X4_put : GoodIn wsX0_sendAway wsX4_put := goodIn_r _ [7, 8, 149] (by decide +kernel) (by decide +kernel)
set_option maxRecDepth 20000 in
theorem gX0_sendAway_X4_put : GoodIn wsX0_sendAway (wsV RX0 108 RX4 yX4_put wsX4_put) := goodIn_app (goodIn_of _ (by decide +kernel)) ggX0_sendAway_X4_put
set_option maxRecDepth 20000 in
theorem ggX0_sendAway_X0_campersHere : GoodIn wsX0_sendAway wsX0_campersHere := goodIn_r _ [13, 14, 1, 15, 16, 17, 6, 18, 8, 137, 138, 139, 140, 141, 142, 143, 144, 145, 146, 147, 148, 149] (by decide +kernel) (by decide +kernel)
set_option maxRecDepth 20000 in
theorem gX0_sendAway_X0_campersHere : GoodIn wsX0_sendAway (wsV RX0 116 RX0 yX0_campersHere wsX0_campersHere) := goodIn_app (goodIn_of _ (by decide +kernel)) ggX0_sendAway_X0_campersHere
set_option maxRecDepth 20000 in
theorem ggX0_sendAway_X3_joinAll : GoodIn wsX0_sendAway wsX3_joinAll := goodIn_r _ [23, 24, 25, 26, 27, 22, 28, 29, 30, 31, 32, 33, 34, 35, 36, 37, 38, 39, 4, 5, 6, 7, 8, 40, 41, 42, 43, 44, 150, 151, 152, 153, 154, 149] (by decide +kernel) (by decide +kernel)
set_option maxRecDepth 20000 in
theorem gX0_sendAway_X3_joinAll : GoodIn wsX0_sendAway (wsV RX0 120 RX3 yX3_joinAll wsX3_joinAll) := goodIn_app (goodIn_of _ (by decide +kernel)) ggX0_sendAway_X3_joinAll
set_option maxRecDepth 20000 in
theorem ggX0_sendAway_X3_firstToGive : GoodIn wsX0_sendAway wsX3_firstToGive := goodIn_r _ [48, 24, 32, 49, 16, 17, 6, 18, 8, 50, 51, 52, 22, 53, 31, 54, 55, 56, 57, 29, 30, 150, 151, 152, 153, 154, 149] (by decide +kernel) (by decide +kernel)
set_option maxRecDepth 20000 in
theorem gX0_sendAway_X3_firstToGive : GoodIn wsX0_sendAway (wsV RX0 123 RX3 yX3_firstToGive wsX3_firstToGive) := goodIn_app (goodIn_of _ (by decide +kernel)) ggX0_sendAway_X3_firstToGive
set_option maxRecDepth 20000 in
theorem ggX0_sendAway_X0_giveAway : GoodIn wsX0_sendAway wsX0_giveAway := goodIn_r _ [61, 2, 62, 63, 64, 65, 66, 22, 67, 31, 29, 30, 49, 16, 17, 6, 18, 8, 68, 34, 69, 36, 37, 38, 70, 71, 42, 43, 44, 72, 73, 74, 75, 24, 76, 77, 78, 79, 80, 81, 82, 83, 32, 84, 85, 86, 87, 88, 89, 90, 91, 92, 93, 94, 95, 96, 97, 98, 99, 100, 101, 102, 103, 104, 105, 106, 107, 108, 12, 109, 14, 110, 111, 112, 113, 1, 15, 114, 115, 116, 117, 118, 119, 120, 121, 122, 123, 124, 39, 4, 5, 7, 125, 126, 127, 128, 129, 130, 131, 132, 25, 26, 27, 28, 33, 35, 40, 41, 133, 134, 135, 136, 137, 138, 139, 140, 141, 142, 143, 144, 145, 146, 147, 148, 150, 151, 152, 153, 154, 149] (by decide +kernel) (by decide +kernel)
set_option maxRecDepth 20000 in
theorem gX0_sendAway_X0_giveAway : GoodIn wsX0_sendAway (wsV RX0 126 RX0 yX0_giveAway wsX0_giveAway) := goodIn_app (goodIn_of _ (by decide +kernel)) ggX0_sendAway_X0_giveAway
theorem dX0_sendAway_0 : decode cX0_sendAway 0 = .ok (.aload_n 0, 1) := by decide +kernel
theorem dX0_sendAway_1 : decode cX0_sendAway 1 = .ok (.getfield 30, 3) := by decide +kernel
theorem dX0_sendAway_4 : decode cX0_sendAway 4 = .ok (.iload_n 1, 1) := by decide +kernel
theorem dX0_sendAway_5 : decode cX0_sendAway 5 = .ok (.iconst 0, 1) := by decide +kernel
theorem dX0_sendAway_6 : decode cX0_sendAway 6 = .ok (.invokevirtual 108, 3) := by decide +kernel
theorem dX0_sendAway_9 : decode cX0_sendAway 9 = .ok (.aload_n 0, 1) := by decide +kernel
theorem dX0_sendAway_10 : decode cX0_sendAway 10 = .ok (.invokevirtual 116, 3) := by decide +kernel
theorem dX0_sendAway_13 : decode cX0_sendAway 13 = .ok (.ifCond .ne 11, 3) := by decide +kernel
theorem dX0_sendAway_16 : decode cX0_sendAway 16 = .ok (.aload_n 0, 1) := by decide +kernel
theorem dX0_sendAway_17 : decode cX0_sendAway 17 = .ok (.getfield 12, 3) := by decide +kernel
theorem dX0_sendAway_20 : decode cX0_sendAway 20 = .ok (.invokevirtual 120, 3) := by decide +kernel
theorem dX0_sendAway_23 : decode cX0_sendAway 23 = .ok (.return_, 1) := by decide +kernel
theorem dX0_sendAway_24 : decode cX0_sendAway 24 = .ok (.iconst 0, 1) := by decide +kernel
theorem dX0_sendAway_25 : decode cX0_sendAway 25 = .ok (.istore_n 2, 1) := by decide +kernel
theorem dX0_sendAway_26 : decode cX0_sendAway 26 = .ok (.iload_n 2, 1) := by decide +kernel
theorem dX0_sendAway_27 : decode cX0_sendAway 27 = .ok (.sipush 181, 3) := by decide +kernel
theorem dX0_sendAway_30 : decode cX0_sendAway 30 = .ok (.if_icmp .ge 29, 3) := by decide +kernel
theorem dX0_sendAway_33 : decode cX0_sendAway 33 = .ok (.aload_n 0, 1) := by decide +kernel
theorem dX0_sendAway_34 : decode cX0_sendAway 34 = .ok (.getfield 12, 3) := by decide +kernel
theorem dX0_sendAway_37 : decode cX0_sendAway 37 = .ok (.iload_n 1, 1) := by decide +kernel
theorem dX0_sendAway_38 : decode cX0_sendAway 38 = .ok (.invokevirtual 123, 3) := by decide +kernel
theorem dX0_sendAway_41 : decode cX0_sendAway 41 = .ok (.istore_n 3, 1) := by decide +kernel
theorem dX0_sendAway_42 : decode cX0_sendAway 42 = .ok (.iload_n 3, 1) := by decide +kernel
theorem dX0_sendAway_43 : decode cX0_sendAway 43 = .ok (.iconst (-1), 1) := by decide +kernel
theorem dX0_sendAway_44 : decode cX0_sendAway 44 = .ok (.if_icmp .ne 4, 3) := by decide +kernel
theorem dX0_sendAway_47 : decode cX0_sendAway 47 = .ok (.return_, 1) := by decide +kernel
theorem dX0_sendAway_48 : decode cX0_sendAway 48 = .ok (.aload_n 0, 1) := by decide +kernel
theorem dX0_sendAway_49 : decode cX0_sendAway 49 = .ok (.iload_n 3, 1) := by decide +kernel
theorem dX0_sendAway_50 : decode cX0_sendAway 50 = .ok (.invokevirtual 126, 3) := by decide +kernel
theorem dX0_sendAway_53 : decode cX0_sendAway 53 = .ok (.iinc 2 1, 3) := by decide +kernel
theorem dX0_sendAway_56 : decode cX0_sendAway 56 = .ok (.goto (-30), 3) := by decide +kernel
theorem dX0_sendAway_59 : decode cX0_sendAway 59 = .ok (.return_, 1) := by decide +kernel
set_option maxRecDepth 20000 in
theorem ggX0_giveAway_X3_otherHalf : GoodIn wsX0_giveAway wsX3_otherHalf := goodIn_r _ [8, 9, 10, 11, 12, 13, 14, 15, 16, 17, 18, 19, 20, 21, 22, 23, 24, 25, 26, 27, 28, 29, 30, 31, 7, 32, 33, 34, 35, 36, 37, 124, 125, 126, 127, 128, 129] (by decide +kernel) (by decide +kernel)
set_option maxRecDepth 20000 in
theorem gX0_giveAway_X3_otherHalf : GoodIn wsX0_giveAway (wsV RX0 129 RX3 yX3_otherHalf wsX3_otherHalf) := goodIn_app (goodIn_of _ (by decide +kernel)) ggX0_giveAway_X3_otherHalf
set_option maxRecDepth 20000 in
theorem ggX0_giveAway_X3_ownersBeside : GoodIn wsX0_giveAway wsX3_ownersBeside := goodIn_r _ [41, 33, 42, 43, 44, 45, 7, 46, 47, 48, 49, 50, 10, 12, 13, 14, 15, 16, 17, 51, 52, 53, 54, 9, 22, 19, 23, 55, 56, 57, 58, 11, 59, 60, 61, 62, 27, 28, 63, 64, 124, 125, 126, 127, 128, 129] (by decide +kernel) (by decide +kernel)
set_option maxRecDepth 20000 in
theorem gX0_giveAway_X3_ownersBeside : GoodIn wsX0_giveAway (wsV RX0 132 RX3 yX3_ownersBeside wsX3_ownersBeside) := goodIn_app (goodIn_of _ (by decide +kernel)) ggX0_giveAway_X3_ownersBeside
set_option maxRecDepth 20000 in
theorem ggX0_giveAway_X0_leastOf : GoodIn wsX0_giveAway wsX0_leastOf := goodIn_r _ [69, 70, 1, 71, 72, 73, 68, 74, 75, 76, 13, 14, 15, 16, 17, 77, 19, 78, 79, 63, 64, 80, 81, 82, 7, 83, 33, 42, 9, 12, 22, 23, 27, 28, 112, 113, 114, 115, 116, 117, 118, 119, 120, 121, 122, 123, 129, 124, 125, 126, 127, 128] (by decide +kernel) (by decide +kernel)
set_option maxRecDepth 20000 in
theorem gX0_giveAway_X0_leastOf : GoodIn wsX0_giveAway (wsV RX0 135 RX0 yX0_leastOf wsX0_leastOf) := goodIn_app (goodIn_of _ (by decide +kernel)) ggX0_giveAway_X0_leastOf
set_option maxRecDepth 20000 in
theorem ggX0_giveAway_X3_giveTo : GoodIn wsX0_giveAway wsX3_giveTo := goodIn_r _ [87, 42, 88, 89, 90, 15, 91, 17, 124, 125, 126, 127, 128, 129] (by decide +kernel) (by decide +kernel)
set_option maxRecDepth 20000 in
theorem gX0_giveAway_X3_giveTo : GoodIn wsX0_giveAway (wsV RX0 138 RX3 yX3_giveTo wsX3_giveTo) := goodIn_app (goodIn_of _ (by decide +kernel)) ggX0_giveAway_X3_giveTo
set_option maxRecDepth 20000 in
theorem ggX0_giveAway_X3_ownerOf : GoodIn wsX0_giveAway wsX3_ownerOf := goodIn_r _ [95, 42, 12, 13, 14, 15, 16, 17, 124, 125, 126, 127, 128, 129] (by decide +kernel) (by decide +kernel)
set_option maxRecDepth 20000 in
theorem gX0_giveAway_X3_ownerOf : GoodIn wsX0_giveAway (wsV RX0 84 RX3 yX3_ownerOf wsX3_ownerOf) := goodIn_app (goodIn_of _ (by decide +kernel)) ggX0_giveAway_X3_ownerOf
set_option maxRecDepth 20000 in
theorem ggX0_giveAway_X3_join : GoodIn wsX0_giveAway wsX3_join := goodIn_r _ [99, 10, 11, 9, 12, 13, 14, 15, 16, 17, 100, 101, 102, 7, 103, 42, 104, 19, 105, 21, 22, 23, 88, 89, 90, 91, 106, 107, 26, 27, 28, 108, 109, 110, 111, 33, 124, 125, 126, 127, 128, 129] (by decide +kernel) (by decide +kernel)
set_option maxRecDepth 20000 in
theorem gX0_giveAway_X3_join : GoodIn wsX0_giveAway (wsV RX0 141 RX3 yX3_join wsX3_join) := goodIn_app (goodIn_of _ (by decide +kernel)) ggX0_giveAway_X3_join
theorem dX0_giveAway_0 : decode cX0_giveAway 0 = .ok (.aload_n 0, 1) := by decide +kernel
theorem dX0_giveAway_1 : decode cX0_giveAway 1 = .ok (.getfield 12, 3) := by decide +kernel
theorem dX0_giveAway_4 : decode cX0_giveAway 4 = .ok (.iload_n 1, 1) := by decide +kernel
theorem dX0_giveAway_5 : decode cX0_giveAway 5 = .ok (.invokevirtual 129, 3) := by decide +kernel
theorem dX0_giveAway_8 : decode cX0_giveAway 8 = .ok (.istore_n 2, 1) := by decide +kernel
theorem dX0_giveAway_9 : decode cX0_giveAway 9 = .ok (.iload_n 2, 1) := by decide +kernel
theorem dX0_giveAway_10 : decode cX0_giveAway 10 = .ok (.iconst (-1), 1) := by decide +kernel
theorem dX0_giveAway_11 : decode cX0_giveAway 11 = .ok (.if_icmp .ne 36, 3) := by decide +kernel
theorem dX0_giveAway_14 : decode cX0_giveAway 14 = .ok (.aload_n 0, 1) := by decide +kernel
theorem dX0_giveAway_15 : decode cX0_giveAway 15 = .ok (.getfield 12, 3) := by decide +kernel
theorem dX0_giveAway_18 : decode cX0_giveAway 18 = .ok (.iload_n 1, 1) := by decide +kernel
theorem dX0_giveAway_19 : decode cX0_giveAway 19 = .ok (.aload_n 0, 1) := by decide +kernel
theorem dX0_giveAway_20 : decode cX0_giveAway 20 = .ok (.aload_n 0, 1) := by decide +kernel
theorem dX0_giveAway_21 : decode cX0_giveAway 21 = .ok (.getfield 12, 3) := by decide +kernel
theorem dX0_giveAway_24 : decode cX0_giveAway 24 = .ok (.iload_n 1, 1) := by decide +kernel
theorem dX0_giveAway_25 : decode cX0_giveAway 25 = .ok (.invokevirtual 132, 3) := by decide +kernel
theorem dX0_giveAway_28 : decode cX0_giveAway 28 = .ok (.invokevirtual 135, 3) := by decide +kernel
theorem dX0_giveAway_31 : decode cX0_giveAway 31 = .ok (.invokevirtual 138, 3) := by decide +kernel
theorem dX0_giveAway_34 : decode cX0_giveAway 34 = .ok (.aload_n 0, 1) := by decide +kernel
theorem dX0_giveAway_35 : decode cX0_giveAway 35 = .ok (.dup, 1) := by decide +kernel
theorem dX0_giveAway_36 : decode cX0_giveAway 36 = .ok (.getfield 55, 3) := by decide +kernel
theorem dX0_giveAway_39 : decode cX0_giveAway 39 = .ok (.iconst 1, 1) := by decide +kernel
theorem dX0_giveAway_40 : decode cX0_giveAway 40 = .ok (.iadd, 1) := by decide +kernel
theorem dX0_giveAway_41 : decode cX0_giveAway 41 = .ok (.putfield 55, 3) := by decide +kernel
theorem dX0_giveAway_44 : decode cX0_giveAway 44 = .ok (.goto 30, 3) := by decide +kernel
theorem dX0_giveAway_47 : decode cX0_giveAway 47 = .ok (.aload_n 0, 1) := by decide +kernel
theorem dX0_giveAway_48 : decode cX0_giveAway 48 = .ok (.getfield 12, 3) := by decide +kernel
theorem dX0_giveAway_51 : decode cX0_giveAway 51 = .ok (.iload_n 1, 1) := by decide +kernel
theorem dX0_giveAway_52 : decode cX0_giveAway 52 = .ok (.iload_n 2, 1) := by decide +kernel
theorem dX0_giveAway_53 : decode cX0_giveAway 53 = .ok (.aload_n 0, 1) := by decide +kernel
theorem dX0_giveAway_54 : decode cX0_giveAway 54 = .ok (.getfield 12, 3) := by decide +kernel
theorem dX0_giveAway_57 : decode cX0_giveAway 57 = .ok (.iload_n 2, 1) := by decide +kernel
theorem dX0_giveAway_58 : decode cX0_giveAway 58 = .ok (.invokevirtual 84, 3) := by decide +kernel
theorem dX0_giveAway_61 : decode cX0_giveAway 61 = .ok (.invokevirtual 141, 3) := by decide +kernel
theorem dX0_giveAway_64 : decode cX0_giveAway 64 = .ok (.aload_n 0, 1) := by decide +kernel
theorem dX0_giveAway_65 : decode cX0_giveAway 65 = .ok (.dup, 1) := by decide +kernel
theorem dX0_giveAway_66 : decode cX0_giveAway 66 = .ok (.getfield 52, 3) := by decide +kernel
theorem dX0_giveAway_69 : decode cX0_giveAway 69 = .ok (.iconst 1, 1) := by decide +kernel
theorem dX0_giveAway_70 : decode cX0_giveAway 70 = .ok (.iadd, 1) := by decide +kernel
theorem dX0_giveAway_71 : decode cX0_giveAway 71 = .ok (.putfield 52, 3) := by decide +kernel
theorem dX0_giveAway_74 : decode cX0_giveAway 74 = .ok (.return_, 1) := by decide +kernel
set_option maxRecDepth 20000 in
theorem ggX0_leastOf_X0_isHere : GoodIn wsX0_leastOf wsX0_isHere := goodIn_r _ [7, 1, 8, 9, 10, 11, 12, 13, 14, 34, 35, 36, 37, 38, 39, 40, 41, 42, 43, 44, 45, 46] (by decide +kernel) (by decide +kernel)
set_option maxRecDepth 20000 in
theorem gX0_leastOf_X0_isHere : GoodIn wsX0_leastOf (wsV RX0 72 RX0 yX0_isHere wsX0_isHere) := goodIn_app (goodIn_of _ (by decide +kernel)) ggX0_leastOf_X0_isHere
set_option maxRecDepth 20000 in
theorem ggX0_leastOf_X5_isMarked : GoodIn wsX0_leastOf wsX5_isMarked := goodIn_r _ [17, 18, 19, 16, 20] (by decide +kernel) (by decide +kernel)
set_option maxRecDepth 20000 in
theorem gX0_leastOf_X5_isMarked_n144 : GoodIn wsX0_leastOf (wsX5_isMarked) := ggX0_leastOf_X5_isMarked
set_option maxRecDepth 20000 in
theorem ggX0_leastOf_X3_pointsOf : GoodIn wsX0_leastOf wsX3_pointsOf := goodIn_r _ [25, 26, 27, 28, 29, 10, 11, 12, 13, 14, 30, 16, 31, 32, 33, 47, 48, 49, 50, 51, 46] (by decide +kernel) (by decide +kernel)
set_option maxRecDepth 20000 in
theorem gX0_leastOf_X3_pointsOf : GoodIn wsX0_leastOf (wsV RX0 147 RX3 yX3_pointsOf wsX3_pointsOf) := goodIn_app (goodIn_of _ (by decide +kernel)) ggX0_leastOf_X3_pointsOf
theorem dX0_leastOf_0 : decode cX0_leastOf 0 = .ok (.iconst (-1), 1) := by decide +kernel
theorem dX0_leastOf_1 : decode cX0_leastOf 1 = .ok (.istore_n 2, 1) := by decide +kernel
theorem dX0_leastOf_2 : decode cX0_leastOf 2 = .ok (.iconst 0, 1) := by decide +kernel
theorem dX0_leastOf_3 : decode cX0_leastOf 3 = .ok (.istore_n 3, 1) := by decide +kernel
theorem dX0_leastOf_4 : decode cX0_leastOf 4 = .ok (.iconst 0, 1) := by decide +kernel
theorem dX0_leastOf_5 : decode cX0_leastOf 5 = .ok (.istore 4, 2) := by decide +kernel
theorem dX0_leastOf_7 : decode cX0_leastOf 7 = .ok (.iload 4, 2) := by decide +kernel
theorem dX0_leastOf_9 : decode cX0_leastOf 9 = .ok (.aload_n 0, 1) := by decide +kernel
theorem dX0_leastOf_10 : decode cX0_leastOf 10 = .ok (.getfield 42, 3) := by decide +kernel
theorem dX0_leastOf_13 : decode cX0_leastOf 13 = .ok (.if_icmp .ge 55, 3) := by decide +kernel
theorem dX0_leastOf_16 : decode cX0_leastOf 16 = .ok (.aload_n 0, 1) := by decide +kernel
theorem dX0_leastOf_17 : decode cX0_leastOf 17 = .ok (.iload 4, 2) := by decide +kernel
theorem dX0_leastOf_19 : decode cX0_leastOf 19 = .ok (.invokevirtual 72, 3) := by decide +kernel
theorem dX0_leastOf_22 : decode cX0_leastOf 22 = .ok (.ifCond .eq 40, 3) := by decide +kernel
theorem dX0_leastOf_25 : decode cX0_leastOf 25 = .ok (.iload_n 1, 1) := by decide +kernel
theorem dX0_leastOf_26 : decode cX0_leastOf 26 = .ok (.iload 4, 2) := by decide +kernel
theorem dX0_leastOf_28 : decode cX0_leastOf 28 = .ok (.invokestatic 144, 3) := by decide +kernel
theorem dX0_leastOf_31 : decode cX0_leastOf 31 = .ok (.ifCond .eq 31, 3) := by decide +kernel
theorem dX0_leastOf_34 : decode cX0_leastOf 34 = .ok (.aload_n 0, 1) := by decide +kernel
theorem dX0_leastOf_35 : decode cX0_leastOf 35 = .ok (.getfield 12, 3) := by decide +kernel
theorem dX0_leastOf_38 : decode cX0_leastOf 38 = .ok (.iload 4, 2) := by decide +kernel
theorem dX0_leastOf_40 : decode cX0_leastOf 40 = .ok (.invokevirtual 147, 3) := by decide +kernel
theorem dX0_leastOf_43 : decode cX0_leastOf 43 = .ok (.istore 5, 2) := by decide +kernel
theorem dX0_leastOf_45 : decode cX0_leastOf 45 = .ok (.iload_n 2, 1) := by decide +kernel
theorem dX0_leastOf_46 : decode cX0_leastOf 46 = .ok (.iconst (-1), 1) := by decide +kernel
theorem dX0_leastOf_47 : decode cX0_leastOf 47 = .ok (.if_icmp .eq 9, 3) := by decide +kernel
theorem dX0_leastOf_50 : decode cX0_leastOf 50 = .ok (.iload 5, 2) := by decide +kernel
theorem dX0_leastOf_52 : decode cX0_leastOf 52 = .ok (.iload_n 3, 1) := by decide +kernel
theorem dX0_leastOf_53 : decode cX0_leastOf 53 = .ok (.if_icmp .ge 9, 3) := by decide +kernel
theorem dX0_leastOf_56 : decode cX0_leastOf 56 = .ok (.iload 4, 2) := by decide +kernel
theorem dX0_leastOf_58 : decode cX0_leastOf 58 = .ok (.istore_n 2, 1) := by decide +kernel
theorem dX0_leastOf_59 : decode cX0_leastOf 59 = .ok (.iload 5, 2) := by decide +kernel
theorem dX0_leastOf_61 : decode cX0_leastOf 61 = .ok (.istore_n 3, 1) := by decide +kernel
theorem dX0_leastOf_62 : decode cX0_leastOf 62 = .ok (.iinc 4 1, 3) := by decide +kernel
theorem dX0_leastOf_65 : decode cX0_leastOf 65 = .ok (.goto (-58), 3) := by decide +kernel
theorem dX0_leastOf_68 : decode cX0_leastOf 68 = .ok (.iload_n 2, 1) := by decide +kernel
theorem dX0_leastOf_69 : decode cX0_leastOf 69 = .ok (.ireturn, 1) := by decide +kernel
set_option maxRecDepth 20000 in
theorem ggX0_passOn_X3_giveTo : GoodIn wsX0_passOn wsX3_giveTo := goodIn_r _ [7, 8, 9, 10, 11, 12, 13, 14, 78, 79, 80, 81, 82, 83] (by decide +kernel) (by decide +kernel)
set_option maxRecDepth 20000 in
theorem gX0_passOn_X3_giveTo : GoodIn wsX0_passOn (wsV RX0 138 RX3 yX3_giveTo wsX3_giveTo) := goodIn_app (goodIn_of _ (by decide +kernel)) ggX0_passOn_X3_giveTo
set_option maxRecDepth 20000 in
theorem ggX0_passOn_X3_otherHalf : GoodIn wsX0_passOn wsX3_otherHalf := goodIn_r _ [18, 19, 20, 21, 22, 23, 24, 12, 25, 14, 26, 27, 28, 29, 30, 31, 32, 33, 34, 35, 36, 37, 38, 39, 6, 40, 41, 42, 43, 44, 45, 78, 79, 80, 81, 82, 83] (by decide +kernel) (by decide +kernel)
set_option maxRecDepth 20000 in
theorem gX0_passOn_X3_otherHalf : GoodIn wsX0_passOn (wsV RX0 129 RX3 yX3_otherHalf wsX3_otherHalf) := goodIn_app (goodIn_of _ (by decide +kernel)) ggX0_passOn_X3_otherHalf
set_option maxRecDepth 20000 in
theorem ggX0_passOn_X3_ownerOf : GoodIn wsX0_passOn wsX3_ownerOf := goodIn_r _ [49, 8, 22, 23, 24, 12, 25, 14, 78, 79, 80, 81, 82, 83] (by decide +kernel) (by decide +kernel)
set_option maxRecDepth 20000 in
theorem gX0_passOn_X3_ownerOf : GoodIn wsX0_passOn (wsV RX0 84 RX3 yX3_ownerOf wsX3_ownerOf) := goodIn_app (goodIn_of _ (by decide +kernel)) ggX0_passOn_X3_ownerOf
set_option maxRecDepth 20000 in
theorem ggX0_passOn_X3_join : GoodIn wsX0_passOn wsX3_join := goodIn_r _ [53, 20, 21, 19, 22, 23, 24, 12, 25, 14, 54, 55, 56, 6, 57, 8, 58, 27, 59, 29, 30, 31, 9, 10, 11, 13, 60, 61, 34, 35, 36, 62, 63, 64, 65, 41, 78, 79, 80, 81, 82, 83] (by decide +kernel) (by decide +kernel)
set_option maxRecDepth 20000 in
theorem gX0_passOn_X3_join : GoodIn wsX0_passOn (wsV RX0 141 RX3 yX3_join wsX3_join) := goodIn_app (goodIn_of _ (by decide +kernel)) ggX0_passOn_X3_join
theorem dX0_passOn_0 : decode cX0_passOn 0 = .ok (.aload_n 0, 1) := by decide +kernel
theorem dX0_passOn_1 : decode cX0_passOn 1 = .ok (.getfield 12, 3) := by decide +kernel
theorem dX0_passOn_4 : decode cX0_passOn 4 = .ok (.iload_n 1, 1) := by decide +kernel
theorem dX0_passOn_5 : decode cX0_passOn 5 = .ok (.iload_n 2, 1) := by decide +kernel
theorem dX0_passOn_6 : decode cX0_passOn 6 = .ok (.invokevirtual 138, 3) := by decide +kernel
theorem dX0_passOn_9 : decode cX0_passOn 9 = .ok (.aload_n 0, 1) := by decide +kernel
theorem dX0_passOn_10 : decode cX0_passOn 10 = .ok (.getfield 12, 3) := by decide +kernel
theorem dX0_passOn_13 : decode cX0_passOn 13 = .ok (.iload_n 1, 1) := by decide +kernel
theorem dX0_passOn_14 : decode cX0_passOn 14 = .ok (.invokevirtual 129, 3) := by decide +kernel
theorem dX0_passOn_17 : decode cX0_passOn 17 = .ok (.istore_n 3, 1) := by decide +kernel
theorem dX0_passOn_18 : decode cX0_passOn 18 = .ok (.iload_n 3, 1) := by decide +kernel
theorem dX0_passOn_19 : decode cX0_passOn 19 = .ok (.iconst (-1), 1) := by decide +kernel
theorem dX0_passOn_20 : decode cX0_passOn 20 = .ok (.if_icmp .eq 35, 3) := by decide +kernel
theorem dX0_passOn_23 : decode cX0_passOn 23 = .ok (.aload_n 0, 1) := by decide +kernel
theorem dX0_passOn_24 : decode cX0_passOn 24 = .ok (.getfield 12, 3) := by decide +kernel
theorem dX0_passOn_27 : decode cX0_passOn 27 = .ok (.iload_n 3, 1) := by decide +kernel
theorem dX0_passOn_28 : decode cX0_passOn 28 = .ok (.invokevirtual 84, 3) := by decide +kernel
theorem dX0_passOn_31 : decode cX0_passOn 31 = .ok (.iload_n 2, 1) := by decide +kernel
theorem dX0_passOn_32 : decode cX0_passOn 32 = .ok (.if_icmp .ne 23, 3) := by decide +kernel
theorem dX0_passOn_35 : decode cX0_passOn 35 = .ok (.aload_n 0, 1) := by decide +kernel
theorem dX0_passOn_36 : decode cX0_passOn 36 = .ok (.getfield 12, 3) := by decide +kernel
theorem dX0_passOn_39 : decode cX0_passOn 39 = .ok (.iload_n 1, 1) := by decide +kernel
theorem dX0_passOn_40 : decode cX0_passOn 40 = .ok (.iload_n 3, 1) := by decide +kernel
theorem dX0_passOn_41 : decode cX0_passOn 41 = .ok (.iload_n 2, 1) := by decide +kernel
theorem dX0_passOn_42 : decode cX0_passOn 42 = .ok (.invokevirtual 141, 3) := by decide +kernel
theorem dX0_passOn_45 : decode cX0_passOn 45 = .ok (.aload_n 0, 1) := by decide +kernel
theorem dX0_passOn_46 : decode cX0_passOn 46 = .ok (.dup, 1) := by decide +kernel
theorem dX0_passOn_47 : decode cX0_passOn 47 = .ok (.getfield 52, 3) := by decide +kernel
theorem dX0_passOn_50 : decode cX0_passOn 50 = .ok (.iconst 1, 1) := by decide +kernel
theorem dX0_passOn_51 : decode cX0_passOn 51 = .ok (.iadd, 1) := by decide +kernel
theorem dX0_passOn_52 : decode cX0_passOn 52 = .ok (.putfield 52, 3) := by decide +kernel
theorem dX0_passOn_55 : decode cX0_passOn 55 = .ok (.return_, 1) := by decide +kernel
set_option maxRecDepth 20000 in
theorem ggX0_plotOnWay_X4_at : GoodIn wsX0_plotOnWay wsX4_at := goodIn_r _ [8, 9, 81] (by decide +kernel) (by decide +kernel)
set_option maxRecDepth 20000 in
theorem gX0_plotOnWay_X4_at : GoodIn wsX0_plotOnWay (wsV RX0 65 RX4 yX4_at wsX4_at) := goodIn_app (goodIn_of _ (by decide +kernel)) ggX0_plotOnWay_X4_at
set_option maxRecDepth 20000 in
theorem ggX0_plotOnWay_X3_find : GoodIn wsX0_plotOnWay wsX3_find := goodIn_r _ [14, 15, 16, 17, 18, 13, 19, 20, 21, 22, 23, 5, 6, 7, 8, 9, 24, 25, 26, 27, 28, 82, 83, 84, 85, 86, 81] (by decide +kernel) (by decide +kernel)
set_option maxRecDepth 20000 in
theorem gX0_plotOnWay_X3_find : GoodIn wsX0_plotOnWay (wsV RX0 80 RX3 yX3_find wsX3_find) := goodIn_app (goodIn_of _ (by decide +kernel)) ggX0_plotOnWay_X3_find
set_option maxRecDepth 20000 in
theorem ggX0_plotOnWay_X3_has : GoodIn wsX0_plotOnWay wsX3_has := goodIn_r _ [19, 20, 21, 22, 23, 5, 6, 7, 8, 9, 24, 25, 26, 27, 28, 82, 83, 84, 85, 86, 81] (by decide +kernel) (by decide +kernel)
set_option maxRecDepth 20000 in
theorem gX0_plotOnWay_X3_has : GoodIn wsX0_plotOnWay (wsV RX0 76 RX3 yX3_has wsX3_has) := goodIn_app (goodIn_of _ (by decide +kernel)) ggX0_plotOnWay_X3_has
set_option maxRecDepth 20000 in
theorem ggX0_plotOnWay_X3_nextToward : GoodIn wsX0_plotOnWay wsX3_nextToward := goodIn_r _ [33, 15, 34, 35, 36, 13, 37, 38, 39, 40, 41, 20, 23, 5, 6, 7, 8, 9, 42, 43, 44, 45, 22, 24, 25, 26, 46, 47, 48, 49, 21, 50, 51, 52, 53, 27, 28, 54, 55, 56, 57, 58, 59, 60, 61, 62, 63, 64, 65, 66, 67, 68, 82, 83, 84, 85, 86, 81] (by decide +kernel) (by decide +kernel)
set_option maxRecDepth 20000 in
theorem gX0_plotOnWay_X3_nextToward : GoodIn wsX0_plotOnWay (wsV RX0 150 RX3 yX3_nextToward wsX3_nextToward) := goodIn_app (goodIn_of _ (by decide +kernel)) ggX0_plotOnWay_X3_nextToward
theorem dX0_plotOnWay_0 : decode cX0_plotOnWay 0 = .ok (.iload 4, 2) := by decide +kernel
theorem dX0_plotOnWay_2 : decode cX0_plotOnWay 2 = .ok (.sipush 181, 3) := by decide +kernel
theorem dX0_plotOnWay_5 : decode cX0_plotOnWay 5 = .ok (.if_icmp .lt 5, 3) := by decide +kernel
theorem dX0_plotOnWay_8 : decode cX0_plotOnWay 8 = .ok (.iconst (-1), 1) := by decide +kernel
theorem dX0_plotOnWay_9 : decode cX0_plotOnWay 9 = .ok (.ireturn, 1) := by decide +kernel
theorem dX0_plotOnWay_10 : decode cX0_plotOnWay 10 = .ok (.aload_n 0, 1) := by decide +kernel
theorem dX0_plotOnWay_11 : decode cX0_plotOnWay 11 = .ok (.getfield 12, 3) := by decide +kernel
theorem dX0_plotOnWay_14 : decode cX0_plotOnWay 14 = .ok (.aload_n 0, 1) := by decide +kernel
theorem dX0_plotOnWay_15 : decode cX0_plotOnWay 15 = .ok (.getfield 23, 3) := by decide +kernel
theorem dX0_plotOnWay_18 : decode cX0_plotOnWay 18 = .ok (.iload_n 1, 1) := by decide +kernel
theorem dX0_plotOnWay_19 : decode cX0_plotOnWay 19 = .ok (.invokevirtual 65, 3) := by decide +kernel
theorem dX0_plotOnWay_22 : decode cX0_plotOnWay 22 = .ok (.aload_n 0, 1) := by decide +kernel
theorem dX0_plotOnWay_23 : decode cX0_plotOnWay 23 = .ok (.getfield 27, 3) := by decide +kernel
theorem dX0_plotOnWay_26 : decode cX0_plotOnWay 26 = .ok (.iload_n 1, 1) := by decide +kernel
theorem dX0_plotOnWay_27 : decode cX0_plotOnWay 27 = .ok (.invokevirtual 65, 3) := by decide +kernel
theorem dX0_plotOnWay_30 : decode cX0_plotOnWay 30 = .ok (.invokevirtual 80, 3) := by decide +kernel
theorem dX0_plotOnWay_33 : decode cX0_plotOnWay 33 = .ok (.istore 5, 2) := by decide +kernel
theorem dX0_plotOnWay_35 : decode cX0_plotOnWay 35 = .ok (.iconst 0, 1) := by decide +kernel
theorem dX0_plotOnWay_36 : decode cX0_plotOnWay 36 = .ok (.istore 6, 2) := by decide +kernel
theorem dX0_plotOnWay_38 : decode cX0_plotOnWay 38 = .ok (.iload 6, 2) := by decide +kernel
theorem dX0_plotOnWay_40 : decode cX0_plotOnWay 40 = .ok (.iload 4, 2) := by decide +kernel
theorem dX0_plotOnWay_42 : decode cX0_plotOnWay 42 = .ok (.if_icmp .ge 44, 3) := by decide +kernel
theorem dX0_plotOnWay_45 : decode cX0_plotOnWay 45 = .ok (.iload 5, 2) := by decide +kernel
theorem dX0_plotOnWay_47 : decode cX0_plotOnWay 47 = .ok (.iconst (-1), 1) := by decide +kernel
theorem dX0_plotOnWay_48 : decode cX0_plotOnWay 48 = .ok (.if_icmp .eq 17, 3) := by decide +kernel
theorem dX0_plotOnWay_51 : decode cX0_plotOnWay 51 = .ok (.aload_n 0, 1) := by decide +kernel
theorem dX0_plotOnWay_52 : decode cX0_plotOnWay 52 = .ok (.getfield 12, 3) := by decide +kernel
theorem dX0_plotOnWay_55 : decode cX0_plotOnWay 55 = .ok (.iload 5, 2) := by decide +kernel
theorem dX0_plotOnWay_57 : decode cX0_plotOnWay 57 = .ok (.iload_n 2, 1) := by decide +kernel
theorem dX0_plotOnWay_58 : decode cX0_plotOnWay 58 = .ok (.iload_n 3, 1) := by decide +kernel
theorem dX0_plotOnWay_59 : decode cX0_plotOnWay 59 = .ok (.invokevirtual 76, 3) := by decide +kernel
theorem dX0_plotOnWay_62 : decode cX0_plotOnWay 62 = .ok (.ifCond .eq 5, 3) := by decide +kernel
theorem dX0_plotOnWay_65 : decode cX0_plotOnWay 65 = .ok (.iconst (-1), 1) := by decide +kernel
theorem dX0_plotOnWay_66 : decode cX0_plotOnWay 66 = .ok (.ireturn, 1) := by decide +kernel
theorem dX0_plotOnWay_67 : decode cX0_plotOnWay 67 = .ok (.aload_n 0, 1) := by decide +kernel
theorem dX0_plotOnWay_68 : decode cX0_plotOnWay 68 = .ok (.getfield 12, 3) := by decide +kernel
theorem dX0_plotOnWay_71 : decode cX0_plotOnWay 71 = .ok (.iload 5, 2) := by decide +kernel
theorem dX0_plotOnWay_73 : decode cX0_plotOnWay 73 = .ok (.iload_n 2, 1) := by decide +kernel
theorem dX0_plotOnWay_74 : decode cX0_plotOnWay 74 = .ok (.iload_n 3, 1) := by decide +kernel
theorem dX0_plotOnWay_75 : decode cX0_plotOnWay 75 = .ok (.invokevirtual 150, 3) := by decide +kernel
theorem dX0_plotOnWay_78 : decode cX0_plotOnWay 78 = .ok (.istore 5, 2) := by decide +kernel
theorem dX0_plotOnWay_80 : decode cX0_plotOnWay 80 = .ok (.iinc 6 1, 3) := by decide +kernel
theorem dX0_plotOnWay_83 : decode cX0_plotOnWay 83 = .ok (.goto (-45), 3) := by decide +kernel
theorem dX0_plotOnWay_86 : decode cX0_plotOnWay 86 = .ok (.iload 5, 2) := by decide +kernel
theorem dX0_plotOnWay_88 : decode cX0_plotOnWay 88 = .ok (.ireturn, 1) := by decide +kernel
theorem dX0_isSong_0 : decode cX0_isSong 0 = .ok (.iload_n 1, 1) := by decide +kernel
theorem dX0_isSong_1 : decode cX0_isSong 1 = .ok (.ifCond .lt 15, 3) := by decide +kernel
theorem dX0_isSong_4 : decode cX0_isSong 4 = .ok (.iload_n 1, 1) := by decide +kernel
theorem dX0_isSong_5 : decode cX0_isSong 5 = .ok (.aload_n 0, 1) := by decide +kernel
theorem dX0_isSong_6 : decode cX0_isSong 6 = .ok (.getfield 46, 3) := by decide +kernel
theorem dX0_isSong_9 : decode cX0_isSong 9 = .ok (.if_icmp .ge 7, 3) := by decide +kernel
theorem dX0_isSong_12 : decode cX0_isSong 12 = .ok (.iconst 1, 1) := by decide +kernel
theorem dX0_isSong_13 : decode cX0_isSong 13 = .ok (.goto 4, 3) := by decide +kernel
theorem dX0_isSong_16 : decode cX0_isSong 16 = .ok (.iconst 0, 1) := by decide +kernel
theorem dX0_isSong_17 : decode cX0_isSong 17 = .ok (.ireturn, 1) := by decide +kernel
set_option maxRecDepth 20000 in
theorem ggX0_addSong_X4_put : GoodIn wsX0_addSong wsX4_put := goodIn_r _ [7, 8, 28] (by decide +kernel) (by decide +kernel)
set_option maxRecDepth 20000 in
theorem gX0_addSong_X4_put : GoodIn wsX0_addSong (wsV RX0 108 RX4 yX4_put wsX4_put) := goodIn_app (goodIn_of _ (by decide +kernel)) ggX0_addSong_X4_put
set_option maxRecDepth 20000 in
theorem ggX0_addSong_X0_putSong : GoodIn wsX0_addSong wsX0_putSong := goodIn_r _ [13, 14, 15, 3, 4, 5, 6, 7, 8, 16, 17, 18, 19, 20, 21, 22, 23, 24, 25, 26, 27, 28] (by decide +kernel) (by decide +kernel)
set_option maxRecDepth 20000 in
theorem gX0_addSong_X0_putSong : GoodIn wsX0_addSong (wsV RX0 154 RX0 yX0_putSong wsX0_putSong) := goodIn_app (goodIn_of _ (by decide +kernel)) ggX0_addSong_X0_putSong
theorem dX0_addSong_0 : decode cX0_addSong 0 = .ok (.aload_n 0, 1) := by decide +kernel
theorem dX0_addSong_1 : decode cX0_addSong 1 = .ok (.getfield 46, 3) := by decide +kernel
theorem dX0_addSong_4 : decode cX0_addSong 4 = .ok (.istore 4, 2) := by decide +kernel
theorem dX0_addSong_6 : decode cX0_addSong 6 = .ok (.aload_n 0, 1) := by decide +kernel
theorem dX0_addSong_7 : decode cX0_addSong 7 = .ok (.getfield 39, 3) := by decide +kernel
theorem dX0_addSong_10 : decode cX0_addSong 10 = .ok (.iload 4, 2) := by decide +kernel
theorem dX0_addSong_12 : decode cX0_addSong 12 = .ok (.iload_n 3, 1) := by decide +kernel
theorem dX0_addSong_13 : decode cX0_addSong 13 = .ok (.invokevirtual 108, 3) := by decide +kernel
theorem dX0_addSong_16 : decode cX0_addSong 16 = .ok (.aload_n 0, 1) := by decide +kernel
theorem dX0_addSong_17 : decode cX0_addSong 17 = .ok (.iload 4, 2) := by decide +kernel
theorem dX0_addSong_19 : decode cX0_addSong 19 = .ok (.iload_n 1, 1) := by decide +kernel
theorem dX0_addSong_20 : decode cX0_addSong 20 = .ok (.iload_n 2, 1) := by decide +kernel
theorem dX0_addSong_21 : decode cX0_addSong 21 = .ok (.invokevirtual 154, 3) := by decide +kernel
theorem dX0_addSong_24 : decode cX0_addSong 24 = .ok (.aload_n 0, 1) := by decide +kernel
theorem dX0_addSong_25 : decode cX0_addSong 25 = .ok (.iload 4, 2) := by decide +kernel
theorem dX0_addSong_27 : decode cX0_addSong 27 = .ok (.iconst 1, 1) := by decide +kernel
theorem dX0_addSong_28 : decode cX0_addSong 28 = .ok (.iadd, 1) := by decide +kernel
theorem dX0_addSong_29 : decode cX0_addSong 29 = .ok (.putfield 46, 3) := by decide +kernel
theorem dX0_addSong_32 : decode cX0_addSong 32 = .ok (.iload 4, 2) := by decide +kernel
theorem dX0_addSong_34 : decode cX0_addSong 34 = .ok (.ireturn, 1) := by decide +kernel
set_option maxRecDepth 20000 in
theorem ggX0_putSong_X4_put : GoodIn wsX0_putSong wsX4_put := goodIn_r _ [7, 8, 21] (by decide +kernel) (by decide +kernel)
set_option maxRecDepth 20000 in
theorem gX0_putSong_X4_put : GoodIn wsX0_putSong (wsV RX0 108 RX4 yX4_put wsX4_put) := goodIn_app (goodIn_of _ (by decide +kernel)) ggX0_putSong_X4_put
theorem dX0_putSong_0 : decode cX0_putSong 0 = .ok (.aload_n 0, 1) := by decide +kernel
theorem dX0_putSong_1 : decode cX0_putSong 1 = .ok (.getfield 33, 3) := by decide +kernel
theorem dX0_putSong_4 : decode cX0_putSong 4 = .ok (.iload_n 1, 1) := by decide +kernel
theorem dX0_putSong_5 : decode cX0_putSong 5 = .ok (.iload_n 2, 1) := by decide +kernel
theorem dX0_putSong_6 : decode cX0_putSong 6 = .ok (.invokevirtual 108, 3) := by decide +kernel
theorem dX0_putSong_9 : decode cX0_putSong 9 = .ok (.aload_n 0, 1) := by decide +kernel
theorem dX0_putSong_10 : decode cX0_putSong 10 = .ok (.getfield 36, 3) := by decide +kernel
theorem dX0_putSong_13 : decode cX0_putSong 13 = .ok (.iload_n 1, 1) := by decide +kernel
theorem dX0_putSong_14 : decode cX0_putSong 14 = .ok (.iload_n 3, 1) := by decide +kernel
theorem dX0_putSong_15 : decode cX0_putSong 15 = .ok (.invokevirtual 108, 3) := by decide +kernel
theorem dX0_putSong_18 : decode cX0_putSong 18 = .ok (.return_, 1) := by decide +kernel
set_option maxRecDepth 20000 in
theorem ggX0_ownerOfSong_X4_at : GoodIn wsX0_ownerOfSong wsX4_at := goodIn_r _ [8, 9, 46] (by decide +kernel) (by decide +kernel)
set_option maxRecDepth 20000 in
theorem gX0_ownerOfSong_X4_at : GoodIn wsX0_ownerOfSong (wsV RX0 65 RX4 yX4_at wsX4_at) := goodIn_app (goodIn_of _ (by decide +kernel)) ggX0_ownerOfSong_X4_at
set_option maxRecDepth 20000 in
theorem ggX0_ownerOfSong_X3_ownerAt : GoodIn wsX0_ownerOfSong wsX3_ownerAt := goodIn_r _ [14, 15, 16, 17, 18, 13, 19, 20, 21, 22, 23, 24, 25, 26, 27, 28, 5, 6, 7, 8, 9, 29, 30, 31, 32, 33, 47, 48, 49, 50, 51, 46] (by decide +kernel) (by decide +kernel)
set_option maxRecDepth 20000 in
theorem gX0_ownerOfSong_X3_ownerAt : GoodIn wsX0_ownerOfSong (wsV RX0 157 RX3 yX3_ownerAt wsX3_ownerAt) := goodIn_app (goodIn_of _ (by decide +kernel)) ggX0_ownerOfSong_X3_ownerAt
theorem dX0_ownerOfSong_0 : decode cX0_ownerOfSong 0 = .ok (.aload_n 0, 1) := by decide +kernel
theorem dX0_ownerOfSong_1 : decode cX0_ownerOfSong 1 = .ok (.getfield 12, 3) := by decide +kernel
theorem dX0_ownerOfSong_4 : decode cX0_ownerOfSong 4 = .ok (.aload_n 0, 1) := by decide +kernel
theorem dX0_ownerOfSong_5 : decode cX0_ownerOfSong 5 = .ok (.getfield 33, 3) := by decide +kernel
theorem dX0_ownerOfSong_8 : decode cX0_ownerOfSong 8 = .ok (.iload_n 1, 1) := by decide +kernel
theorem dX0_ownerOfSong_9 : decode cX0_ownerOfSong 9 = .ok (.invokevirtual 65, 3) := by decide +kernel
theorem dX0_ownerOfSong_12 : decode cX0_ownerOfSong 12 = .ok (.aload_n 0, 1) := by decide +kernel
theorem dX0_ownerOfSong_13 : decode cX0_ownerOfSong 13 = .ok (.getfield 36, 3) := by decide +kernel
theorem dX0_ownerOfSong_16 : decode cX0_ownerOfSong 16 = .ok (.iload_n 1, 1) := by decide +kernel
theorem dX0_ownerOfSong_17 : decode cX0_ownerOfSong 17 = .ok (.invokevirtual 65, 3) := by decide +kernel
theorem dX0_ownerOfSong_20 : decode cX0_ownerOfSong 20 = .ok (.invokevirtual 157, 3) := by decide +kernel
theorem dX0_ownerOfSong_23 : decode cX0_ownerOfSong 23 = .ok (.ireturn, 1) := by decide +kernel
set_option maxRecDepth 20000 in
theorem ggX0_songsOf_X0_ownerOfSong : GoodIn wsX0_songsOf wsX0_ownerOfSong := goodIn_r _ [6, 7, 8, 9, 10, 11, 12, 13, 14, 15, 16, 17, 18, 19, 20, 21, 22, 23, 24, 25, 26, 27, 28, 29, 30, 31, 32, 33, 34, 35, 36, 37, 38, 39, 40, 41, 42, 43, 44, 45, 46, 47, 48, 49, 50, 51, 52, 53, 54, 55, 56, 57] (by decide +kernel) (by decide +kernel)
set_option maxRecDepth 20000 in
theorem gX0_songsOf_X0_ownerOfSong : GoodIn wsX0_songsOf (wsV RX0 160 RX0 yX0_ownerOfSong wsX0_ownerOfSong) := goodIn_app (goodIn_of _ (by decide +kernel)) ggX0_songsOf_X0_ownerOfSong
theorem dX0_songsOf_0 : decode cX0_songsOf 0 = .ok (.iconst 0, 1) := by decide +kernel
theorem dX0_songsOf_1 : decode cX0_songsOf 1 = .ok (.istore_n 2, 1) := by decide +kernel
theorem dX0_songsOf_2 : decode cX0_songsOf 2 = .ok (.iconst 0, 1) := by decide +kernel
theorem dX0_songsOf_3 : decode cX0_songsOf 3 = .ok (.istore_n 3, 1) := by decide +kernel
theorem dX0_songsOf_4 : decode cX0_songsOf 4 = .ok (.iload_n 3, 1) := by decide +kernel
theorem dX0_songsOf_5 : decode cX0_songsOf 5 = .ok (.aload_n 0, 1) := by decide +kernel
theorem dX0_songsOf_6 : decode cX0_songsOf 6 = .ok (.getfield 46, 3) := by decide +kernel
theorem dX0_songsOf_9 : decode cX0_songsOf 9 = .ok (.if_icmp .ge 21, 3) := by decide +kernel
theorem dX0_songsOf_12 : decode cX0_songsOf 12 = .ok (.aload_n 0, 1) := by decide +kernel
theorem dX0_songsOf_13 : decode cX0_songsOf 13 = .ok (.iload_n 3, 1) := by decide +kernel
theorem dX0_songsOf_14 : decode cX0_songsOf 14 = .ok (.invokevirtual 160, 3) := by decide +kernel
theorem dX0_songsOf_17 : decode cX0_songsOf 17 = .ok (.iload_n 1, 1) := by decide +kernel
theorem dX0_songsOf_18 : decode cX0_songsOf 18 = .ok (.if_icmp .ne 6, 3) := by decide +kernel
theorem dX0_songsOf_21 : decode cX0_songsOf 21 = .ok (.iinc 2 1, 3) := by decide +kernel
theorem dX0_songsOf_24 : decode cX0_songsOf 24 = .ok (.iinc 3 1, 3) := by decide +kernel
theorem dX0_songsOf_27 : decode cX0_songsOf 27 = .ok (.goto (-23), 3) := by decide +kernel
theorem dX0_songsOf_30 : decode cX0_songsOf 30 = .ok (.iload_n 2, 1) := by decide +kernel
theorem dX0_songsOf_31 : decode cX0_songsOf 31 = .ok (.ireturn, 1) := by decide +kernel
set_option maxRecDepth 20000 in
theorem ggX0_loudnessOfSong_X4_at : GoodIn wsX0_loudnessOfSong wsX4_at := goodIn_r _ [7, 8, 21] (by decide +kernel) (by decide +kernel)
set_option maxRecDepth 20000 in
theorem gX0_loudnessOfSong_X4_at : GoodIn wsX0_loudnessOfSong (wsV RX0 65 RX4 yX4_at wsX4_at) := goodIn_app (goodIn_of _ (by decide +kernel)) ggX0_loudnessOfSong_X4_at
theorem dX0_loudnessOfSong_0 : decode cX0_loudnessOfSong 0 = .ok (.aload_n 0, 1) := by decide +kernel
theorem dX0_loudnessOfSong_1 : decode cX0_loudnessOfSong 1 = .ok (.getfield 39, 3) := by decide +kernel
theorem dX0_loudnessOfSong_4 : decode cX0_loudnessOfSong 4 = .ok (.iload_n 1, 1) := by decide +kernel
theorem dX0_loudnessOfSong_5 : decode cX0_loudnessOfSong 5 = .ok (.invokevirtual 65, 3) := by decide +kernel
theorem dX0_loudnessOfSong_8 : decode cX0_loudnessOfSong 8 = .ok (.i2f, 1) := by decide +kernel
theorem dX0_loudnessOfSong_9 : decode cX0_loudnessOfSong 9 = .ok (.ldc 163, 2) := by decide +kernel
theorem dX0_loudnessOfSong_11 : decode cX0_loudnessOfSong 11 = .ok (.fdiv, 1) := by decide +kernel
theorem dX0_loudnessOfSong_12 : decode cX0_loudnessOfSong 12 = .ok (.freturn, 1) := by decide +kernel
set_option maxRecDepth 20000 in
theorem ggX0_loudnessOf_X0_ownerOfSong : GoodIn wsX0_loudnessOf wsX0_ownerOfSong := goodIn_r _ [6, 7, 8, 9, 10, 11, 12, 13, 14, 15, 16, 17, 18, 19, 20, 21, 22, 23, 24, 25, 26, 27, 28, 29, 30, 31, 32, 33, 34, 35, 36, 37, 38, 39, 46, 47, 48, 49, 50, 51, 52, 53, 54, 55, 56, 57, 58, 59, 60, 61, 62, 63] (by decide +kernel) (by decide +kernel)
set_option maxRecDepth 20000 in
theorem gX0_loudnessOf_X0_ownerOfSong : GoodIn wsX0_loudnessOf (wsV RX0 160 RX0 yX0_ownerOfSong wsX0_ownerOfSong) := goodIn_app (goodIn_of _ (by decide +kernel)) ggX0_loudnessOf_X0_ownerOfSong
set_option maxRecDepth 20000 in
theorem ggX0_loudnessOf_X0_loudnessOfSong : GoodIn wsX0_loudnessOf wsX0_loudnessOfSong := goodIn_r _ [43, 44, 45, 10, 11, 12, 13, 14, 15, 46, 47, 48, 49, 50, 51, 52, 53, 54, 55, 56, 57, 58] (by decide +kernel) (by decide +kernel)
set_option maxRecDepth 20000 in
theorem gX0_loudnessOf_X0_loudnessOfSong : GoodIn wsX0_loudnessOf (wsV RX0 164 RX0 yX0_loudnessOfSong wsX0_loudnessOfSong) := goodIn_app (goodIn_of _ (by decide +kernel)) ggX0_loudnessOf_X0_loudnessOfSong
theorem dX0_loudnessOf_0 : decode cX0_loudnessOf 0 = .ok (.fconst 0, 1) := by decide +kernel
theorem dX0_loudnessOf_1 : decode cX0_loudnessOf 1 = .ok (.fstore_n 2, 1) := by decide +kernel
theorem dX0_loudnessOf_2 : decode cX0_loudnessOf 2 = .ok (.iconst 0, 1) := by decide +kernel
theorem dX0_loudnessOf_3 : decode cX0_loudnessOf 3 = .ok (.istore_n 3, 1) := by decide +kernel
theorem dX0_loudnessOf_4 : decode cX0_loudnessOf 4 = .ok (.iload_n 3, 1) := by decide +kernel
theorem dX0_loudnessOf_5 : decode cX0_loudnessOf 5 = .ok (.aload_n 0, 1) := by decide +kernel
theorem dX0_loudnessOf_6 : decode cX0_loudnessOf 6 = .ok (.getfield 46, 3) := by decide +kernel
theorem dX0_loudnessOf_9 : decode cX0_loudnessOf 9 = .ok (.if_icmp .ge 26, 3) := by decide +kernel
theorem dX0_loudnessOf_12 : decode cX0_loudnessOf 12 = .ok (.aload_n 0, 1) := by decide +kernel
theorem dX0_loudnessOf_13 : decode cX0_loudnessOf 13 = .ok (.iload_n 3, 1) := by decide +kernel
theorem dX0_loudnessOf_14 : decode cX0_loudnessOf 14 = .ok (.invokevirtual 160, 3) := by decide +kernel
theorem dX0_loudnessOf_17 : decode cX0_loudnessOf 17 = .ok (.iload_n 1, 1) := by decide +kernel
theorem dX0_loudnessOf_18 : decode cX0_loudnessOf 18 = .ok (.if_icmp .ne 11, 3) := by decide +kernel
theorem dX0_loudnessOf_21 : decode cX0_loudnessOf 21 = .ok (.fload_n 2, 1) := by decide +kernel
theorem dX0_loudnessOf_22 : decode cX0_loudnessOf 22 = .ok (.aload_n 0, 1) := by decide +kernel
theorem dX0_loudnessOf_23 : decode cX0_loudnessOf 23 = .ok (.iload_n 3, 1) := by decide +kernel
theorem dX0_loudnessOf_24 : decode cX0_loudnessOf 24 = .ok (.invokevirtual 164, 3) := by decide +kernel
theorem dX0_loudnessOf_27 : decode cX0_loudnessOf 27 = .ok (.fadd, 1) := by decide +kernel
theorem dX0_loudnessOf_28 : decode cX0_loudnessOf 28 = .ok (.fstore_n 2, 1) := by decide +kernel
theorem dX0_loudnessOf_29 : decode cX0_loudnessOf 29 = .ok (.iinc 3 1, 3) := by decide +kernel
theorem dX0_loudnessOf_32 : decode cX0_loudnessOf 32 = .ok (.goto (-28), 3) := by decide +kernel
theorem dX0_loudnessOf_35 : decode cX0_loudnessOf 35 = .ok (.fload_n 2, 1) := by decide +kernel
theorem dX0_loudnessOf_36 : decode cX0_loudnessOf 36 = .ok (.freturn, 1) := by decide +kernel
theorem dX1_init_0 : decode cX1_init 0 = .ok (.aload_n 0, 1) := by decide +kernel
theorem dX1_init_1 : decode cX1_init 1 = .ok (.invokespecial 3, 3) := by decide +kernel
theorem dX1_init_4 : decode cX1_init 4 = .ok (.aload_n 0, 1) := by decide +kernel
theorem dX1_init_5 : decode cX1_init 5 = .ok (.bipush 60, 2) := by decide +kernel
theorem dX1_init_7 : decode cX1_init 7 = .ok (.newarray .char, 2) := by decide +kernel
theorem dX1_init_9 : decode cX1_init 9 = .ok (.putfield 9, 3) := by decide +kernel
theorem dX1_init_12 : decode cX1_init 12 = .ok (.return_, 1) := by decide +kernel
theorem dX1_append_0 : decode cX1_append 0 = .ok (.aload_n 0, 1) := by decide +kernel
theorem dX1_append_1 : decode cX1_append 1 = .ok (.getfield 15, 3) := by decide +kernel
theorem dX1_append_4 : decode cX1_append 4 = .ok (.ifCond .lt 15, 3) := by decide +kernel
theorem dX1_append_7 : decode cX1_append 7 = .ok (.aload_n 0, 1) := by decide +kernel
theorem dX1_append_8 : decode cX1_append 8 = .ok (.getfield 15, 3) := by decide +kernel
theorem dX1_append_11 : decode cX1_append 11 = .ok (.aload_n 0, 1) := by decide +kernel
theorem dX1_append_12 : decode cX1_append 12 = .ok (.getfield 9, 3) := by decide +kernel
theorem dX1_append_15 : decode cX1_append 15 = .ok (.arraylength, 1) := by decide +kernel
theorem dX1_append_16 : decode cX1_append 16 = .ok (.if_icmp .lt 5, 3) := by decide +kernel
theorem dX1_append_19 : decode cX1_append 19 = .ok (.iconst 0, 1) := by decide +kernel
theorem dX1_append_20 : decode cX1_append 20 = .ok (.ireturn, 1) := by decide +kernel
theorem dX1_append_21 : decode cX1_append 21 = .ok (.aload_n 0, 1) := by decide +kernel
theorem dX1_append_22 : decode cX1_append 22 = .ok (.getfield 9, 3) := by decide +kernel
theorem dX1_append_25 : decode cX1_append 25 = .ok (.aload_n 0, 1) := by decide +kernel
theorem dX1_append_26 : decode cX1_append 26 = .ok (.getfield 15, 3) := by decide +kernel
theorem dX1_append_29 : decode cX1_append 29 = .ok (.iload_n 1, 1) := by decide +kernel
theorem dX1_append_30 : decode cX1_append 30 = .ok (.castore, 1) := by decide +kernel
theorem dX1_append_31 : decode cX1_append 31 = .ok (.aload_n 0, 1) := by decide +kernel
theorem dX1_append_32 : decode cX1_append 32 = .ok (.dup, 1) := by decide +kernel
theorem dX1_append_33 : decode cX1_append 33 = .ok (.getfield 15, 3) := by decide +kernel
theorem dX1_append_36 : decode cX1_append 36 = .ok (.iconst 1, 1) := by decide +kernel
theorem dX1_append_37 : decode cX1_append 37 = .ok (.iadd, 1) := by decide +kernel
theorem dX1_append_38 : decode cX1_append 38 = .ok (.putfield 15, 3) := by decide +kernel
theorem dX1_append_41 : decode cX1_append 41 = .ok (.iconst 1, 1) := by decide +kernel
theorem dX1_append_42 : decode cX1_append 42 = .ok (.ireturn, 1) := by decide +kernel
theorem dX1_at_0 : decode cX1_at 0 = .ok (.iload_n 1, 1) := by decide +kernel
theorem dX1_at_1 : decode cX1_at 1 = .ok (.ifCond .lt 21, 3) := by decide +kernel
theorem dX1_at_4 : decode cX1_at 4 = .ok (.iload_n 1, 1) := by decide +kernel
theorem dX1_at_5 : decode cX1_at 5 = .ok (.aload_n 0, 1) := by decide +kernel
theorem dX1_at_6 : decode cX1_at 6 = .ok (.getfield 9, 3) := by decide +kernel
theorem dX1_at_9 : decode cX1_at 9 = .ok (.arraylength, 1) := by decide +kernel
theorem dX1_at_10 : decode cX1_at 10 = .ok (.if_icmp .ge 12, 3) := by decide +kernel
theorem dX1_at_13 : decode cX1_at 13 = .ok (.aload_n 0, 1) := by decide +kernel
theorem dX1_at_14 : decode cX1_at 14 = .ok (.getfield 9, 3) := by decide +kernel
theorem dX1_at_17 : decode cX1_at 17 = .ok (.iload_n 1, 1) := by decide +kernel
theorem dX1_at_18 : decode cX1_at 18 = .ok (.caload, 1) := by decide +kernel
theorem dX1_at_19 : decode cX1_at 19 = .ok (.goto 4, 3) := by decide +kernel
theorem dX1_at_22 : decode cX1_at 22 = .ok (.iconst 0, 1) := by decide +kernel
theorem dX1_at_23 : decode cX1_at 23 = .ok (.ireturn, 1) := by decide +kernel
theorem dX1_isDigit_0 : decode cX1_isDigit 0 = .ok (.iload_n 0, 1) := by decide +kernel
theorem dX1_isDigit_1 : decode cX1_isDigit 1 = .ok (.bipush 48, 2) := by decide +kernel
theorem dX1_isDigit_3 : decode cX1_isDigit 3 = .ok (.if_icmp .lt 13, 3) := by decide +kernel
theorem dX1_isDigit_6 : decode cX1_isDigit 6 = .ok (.iload_n 0, 1) := by decide +kernel
theorem dX1_isDigit_7 : decode cX1_isDigit 7 = .ok (.bipush 57, 2) := by decide +kernel
theorem dX1_isDigit_9 : decode cX1_isDigit 9 = .ok (.if_icmp .gt 7, 3) := by decide +kernel
theorem dX1_isDigit_12 : decode cX1_isDigit 12 = .ok (.iconst 1, 1) := by decide +kernel
theorem dX1_isDigit_13 : decode cX1_isDigit 13 = .ok (.goto 4, 3) := by decide +kernel
theorem dX1_isDigit_16 : decode cX1_isDigit 16 = .ok (.iconst 0, 1) := by decide +kernel
theorem dX1_isDigit_17 : decode cX1_isDigit 17 = .ok (.ireturn, 1) := by decide +kernel
set_option maxRecDepth 20000 in
theorem ggX1_fault_X1_at : GoodIn wsX1_fault wsX1_at := goodIn_r _ [6, 7, 14, 15] (by decide +kernel) (by decide +kernel)
set_option maxRecDepth 20000 in
theorem gX1_fault_X1_at : GoodIn wsX1_fault (wsV RX1 19 RX1 yX1_at wsX1_at) := goodIn_app (goodIn_of _ (by decide +kernel)) ggX1_fault_X1_at
set_option maxRecDepth 20000 in
theorem ggX1_fault_X1_isDigit : GoodIn wsX1_fault wsX1_isDigit := goodIn_r _ [10] (by decide +kernel) (by decide +kernel)
set_option maxRecDepth 20000 in
theorem gX1_fault_X1_isDigit : GoodIn wsX1_fault (va_wsS RX1 23 yX1_isDigit wsX1_isDigit) := goodIn_app (goodIn_of _ (by decide +kernel)) ggX1_fault_X1_isDigit
set_option maxRecDepth 20000 in
theorem ggX1_fault_X1_extended : GoodIn wsX1_fault wsX1_extended := goodIn_r _ [13] (by decide +kernel) (by decide +kernel)
set_option maxRecDepth 20000 in
theorem gX1_fault_X1_extended : GoodIn wsX1_fault (va_wsS RX1 27 yX1_extended wsX1_extended) := goodIn_app (goodIn_of _ (by decide +kernel)) ggX1_fault_X1_extended
theorem dX1_fault_0 : decode cX1_fault 0 = .ok (.iconst (-1), 1) := by decide +kernel
theorem dX1_fault_1 : decode cX1_fault 1 = .ok (.istore_n 1, 1) := by decide +kernel
theorem dX1_fault_2 : decode cX1_fault 2 = .ok (.iconst 0, 1) := by decide +kernel
theorem dX1_fault_3 : decode cX1_fault 3 = .ok (.istore_n 2, 1) := by decide +kernel
theorem dX1_fault_4 : decode cX1_fault 4 = .ok (.iconst 0, 1) := by decide +kernel
theorem dX1_fault_5 : decode cX1_fault 5 = .ok (.istore_n 3, 1) := by decide +kernel
theorem dX1_fault_6 : decode cX1_fault 6 = .ok (.iload_n 3, 1) := by decide +kernel
theorem dX1_fault_7 : decode cX1_fault 7 = .ok (.aload_n 0, 1) := by decide +kernel
theorem dX1_fault_8 : decode cX1_fault 8 = .ok (.getfield 15, 3) := by decide +kernel
theorem dX1_fault_11 : decode cX1_fault 11 = .ok (.if_icmp .ge 79, 3) := by decide +kernel
theorem dX1_fault_14 : decode cX1_fault 14 = .ok (.aload_n 0, 1) := by decide +kernel
theorem dX1_fault_15 : decode cX1_fault 15 = .ok (.iload_n 3, 1) := by decide +kernel
theorem dX1_fault_16 : decode cX1_fault 16 = .ok (.invokevirtual 19, 3) := by decide +kernel
theorem dX1_fault_19 : decode cX1_fault 19 = .ok (.istore 4, 2) := by decide +kernel
theorem dX1_fault_21 : decode cX1_fault 21 = .ok (.iload 4, 2) := by decide +kernel
theorem dX1_fault_23 : decode cX1_fault 23 = .ok (.invokestatic 23, 3) := by decide +kernel
theorem dX1_fault_26 : decode cX1_fault 26 = .ok (.ifCond .eq 20, 3) := by decide +kernel
theorem dX1_fault_29 : decode cX1_fault 29 = .ok (.iload_n 1, 1) := by decide +kernel
theorem dX1_fault_30 : decode cX1_fault 30 = .ok (.iload 4, 2) := by decide +kernel
theorem dX1_fault_32 : decode cX1_fault 32 = .ok (.bipush 48, 2) := by decide +kernel
theorem dX1_fault_34 : decode cX1_fault 34 = .ok (.isub, 1) := by decide +kernel
theorem dX1_fault_35 : decode cX1_fault 35 = .ok (.invokestatic 27, 3) := by decide +kernel
theorem dX1_fault_38 : decode cX1_fault 38 = .ok (.istore_n 1, 1) := by decide +kernel
theorem dX1_fault_39 : decode cX1_fault 39 = .ok (.iload_n 1, 1) := by decide +kernel
theorem dX1_fault_40 : decode cX1_fault 40 = .ok (.iconst (-1), 1) := by decide +kernel
theorem dX1_fault_41 : decode cX1_fault 41 = .ok (.if_icmp .ne 43, 3) := by decide +kernel
theorem dX1_fault_44 : decode cX1_fault 44 = .ok (.iload_n 3, 1) := by decide +kernel
theorem dX1_fault_45 : decode cX1_fault 45 = .ok (.ireturn, 1) := by decide +kernel
theorem dX1_fault_46 : decode cX1_fault 46 = .ok (.iload_n 1, 1) := by decide +kernel
theorem dX1_fault_47 : decode cX1_fault 47 = .ok (.iconst (-1), 1) := by decide +kernel
theorem dX1_fault_48 : decode cX1_fault 48 = .ok (.if_icmp .eq 34, 3) := by decide +kernel
theorem dX1_fault_51 : decode cX1_fault 51 = .ok (.iload 4, 2) := by decide +kernel
theorem dX1_fault_53 : decode cX1_fault 53 = .ok (.iload_n 2, 1) := by decide +kernel
theorem dX1_fault_54 : decode cX1_fault 54 = .ok (.ifCond .eq 8, 3) := by decide +kernel
theorem dX1_fault_57 : decode cX1_fault 57 = .ok (.bipush 59, 2) := by decide +kernel
theorem dX1_fault_59 : decode cX1_fault 59 = .ok (.goto 5, 3) := by decide +kernel
theorem dX1_fault_62 : decode cX1_fault 62 = .ok (.bipush 44, 2) := by decide +kernel
theorem dX1_fault_64 : decode cX1_fault 64 = .ok (.if_icmp .ne 18, 3) := by decide +kernel
theorem dX1_fault_67 : decode cX1_fault 67 = .ok (.iconst (-1), 1) := by decide +kernel
theorem dX1_fault_68 : decode cX1_fault 68 = .ok (.istore_n 1, 1) := by decide +kernel
theorem dX1_fault_69 : decode cX1_fault 69 = .ok (.iload_n 2, 1) := by decide +kernel
theorem dX1_fault_70 : decode cX1_fault 70 = .ok (.ifCond .ne 7, 3) := by decide +kernel
theorem dX1_fault_73 : decode cX1_fault 73 = .ok (.iconst 1, 1) := by decide +kernel
theorem dX1_fault_74 : decode cX1_fault 74 = .ok (.goto 4, 3) := by decide +kernel
theorem dX1_fault_77 : decode cX1_fault 77 = .ok (.iconst 0, 1) := by decide +kernel
theorem dX1_fault_78 : decode cX1_fault 78 = .ok (.istore_n 2, 1) := by decide +kernel
theorem dX1_fault_79 : decode cX1_fault 79 = .ok (.goto 5, 3) := by decide +kernel
theorem dX1_fault_82 : decode cX1_fault 82 = .ok (.iload_n 3, 1) := by decide +kernel
theorem dX1_fault_83 : decode cX1_fault 83 = .ok (.ireturn, 1) := by decide +kernel
theorem dX1_fault_84 : decode cX1_fault 84 = .ok (.iinc 3 1, 3) := by decide +kernel
theorem dX1_fault_87 : decode cX1_fault 87 = .ok (.goto (-81), 3) := by decide +kernel
theorem dX1_fault_90 : decode cX1_fault 90 = .ok (.iload_n 2, 1) := by decide +kernel
theorem dX1_fault_91 : decode cX1_fault 91 = .ok (.ifCond .eq 12, 3) := by decide +kernel
theorem dX1_fault_94 : decode cX1_fault 94 = .ok (.iload_n 1, 1) := by decide +kernel
theorem dX1_fault_95 : decode cX1_fault 95 = .ok (.iconst (-1), 1) := by decide +kernel
theorem dX1_fault_96 : decode cX1_fault 96 = .ok (.if_icmp .eq 7, 3) := by decide +kernel
theorem dX1_fault_99 : decode cX1_fault 99 = .ok (.iconst (-1), 1) := by decide +kernel
theorem dX1_fault_100 : decode cX1_fault 100 = .ok (.goto 7, 3) := by decide +kernel
theorem dX1_fault_103 : decode cX1_fault 103 = .ok (.aload_n 0, 1) := by decide +kernel
theorem dX1_fault_104 : decode cX1_fault 104 = .ok (.getfield 15, 3) := by decide +kernel
theorem dX1_fault_107 : decode cX1_fault 107 = .ok (.ireturn, 1) := by decide +kernel
theorem dX1_extended_0 : decode cX1_extended 0 = .ok (.iload_n 0, 1) := by decide +kernel
theorem dX1_extended_1 : decode cX1_extended 1 = .ok (.iconst (-1), 1) := by decide +kernel
theorem dX1_extended_2 : decode cX1_extended 2 = .ok (.if_icmp .ne 5, 3) := by decide +kernel
theorem dX1_extended_5 : decode cX1_extended 5 = .ok (.iload_n 1, 1) := by decide +kernel
theorem dX1_extended_6 : decode cX1_extended 6 = .ok (.ireturn, 1) := by decide +kernel
theorem dX1_extended_7 : decode cX1_extended 7 = .ok (.iload_n 0, 1) := by decide +kernel
theorem dX1_extended_8 : decode cX1_extended 8 = .ok (.bipush 10, 2) := by decide +kernel
theorem dX1_extended_10 : decode cX1_extended 10 = .ok (.imul, 1) := by decide +kernel
theorem dX1_extended_11 : decode cX1_extended 11 = .ok (.iload_n 1, 1) := by decide +kernel
theorem dX1_extended_12 : decode cX1_extended 12 = .ok (.iadd, 1) := by decide +kernel
theorem dX1_extended_13 : decode cX1_extended 13 = .ok (.istore_n 2, 1) := by decide +kernel
theorem dX1_extended_14 : decode cX1_extended 14 = .ok (.iload_n 0, 1) := by decide +kernel
theorem dX1_extended_15 : decode cX1_extended 15 = .ok (.ifCond .eq 9, 3) := by decide +kernel
theorem dX1_extended_18 : decode cX1_extended 18 = .ok (.iload_n 2, 1) := by decide +kernel
theorem dX1_extended_19 : decode cX1_extended 19 = .ok (.bipush 64, 2) := by decide +kernel
theorem dX1_extended_21 : decode cX1_extended 21 = .ok (.if_icmp .lt 7, 3) := by decide +kernel
theorem dX1_extended_24 : decode cX1_extended 24 = .ok (.iconst (-1), 1) := by decide +kernel
theorem dX1_extended_25 : decode cX1_extended 25 = .ok (.goto 4, 3) := by decide +kernel
theorem dX1_extended_28 : decode cX1_extended 28 = .ok (.iload_n 2, 1) := by decide +kernel
theorem dX1_extended_29 : decode cX1_extended 29 = .ok (.ireturn, 1) := by decide +kernel
set_option maxRecDepth 20000 in
theorem ggX1_campers_X1_at : GoodIn wsX1_campers wsX1_at := goodIn_r _ [6, 7, 8, 9] (by decide +kernel) (by decide +kernel)
set_option maxRecDepth 20000 in
theorem gX1_campers_X1_at : GoodIn wsX1_campers (wsV RX1 19 RX1 yX1_at wsX1_at) := goodIn_app (goodIn_of _ (by decide +kernel)) ggX1_campers_X1_at
theorem dX1_campers_0 : decode cX1_campers 0 = .ok (.iconst 1, 1) := by decide +kernel
theorem dX1_campers_1 : decode cX1_campers 1 = .ok (.istore_n 1, 1) := by decide +kernel
theorem dX1_campers_2 : decode cX1_campers 2 = .ok (.iconst 0, 1) := by decide +kernel
theorem dX1_campers_3 : decode cX1_campers 3 = .ok (.istore_n 2, 1) := by decide +kernel
theorem dX1_campers_4 : decode cX1_campers 4 = .ok (.iload_n 2, 1) := by decide +kernel
theorem dX1_campers_5 : decode cX1_campers 5 = .ok (.aload_n 0, 1) := by decide +kernel
theorem dX1_campers_6 : decode cX1_campers 6 = .ok (.getfield 15, 3) := by decide +kernel
theorem dX1_campers_9 : decode cX1_campers 9 = .ok (.if_icmp .ge 22, 3) := by decide +kernel
theorem dX1_campers_12 : decode cX1_campers 12 = .ok (.aload_n 0, 1) := by decide +kernel
theorem dX1_campers_13 : decode cX1_campers 13 = .ok (.iload_n 2, 1) := by decide +kernel
theorem dX1_campers_14 : decode cX1_campers 14 = .ok (.invokevirtual 19, 3) := by decide +kernel
theorem dX1_campers_17 : decode cX1_campers 17 = .ok (.bipush 59, 2) := by decide +kernel
theorem dX1_campers_19 : decode cX1_campers 19 = .ok (.if_icmp .ne 6, 3) := by decide +kernel
theorem dX1_campers_22 : decode cX1_campers 22 = .ok (.iinc 1 1, 3) := by decide +kernel
theorem dX1_campers_25 : decode cX1_campers 25 = .ok (.iinc 2 1, 3) := by decide +kernel
theorem dX1_campers_28 : decode cX1_campers 28 = .ok (.goto (-24), 3) := by decide +kernel
theorem dX1_campers_31 : decode cX1_campers 31 = .ok (.iload_n 1, 1) := by decide +kernel
theorem dX1_campers_32 : decode cX1_campers 32 = .ok (.ireturn, 1) := by decide +kernel
set_option maxRecDepth 20000 in
theorem ggX1_number_X1_at : GoodIn wsX1_number wsX1_at := goodIn_r _ [6, 7, 11, 12] (by decide +kernel) (by decide +kernel)
set_option maxRecDepth 20000 in
theorem gX1_number_X1_at : GoodIn wsX1_number (wsV RX1 19 RX1 yX1_at wsX1_at) := goodIn_app (goodIn_of _ (by decide +kernel)) ggX1_number_X1_at
set_option maxRecDepth 20000 in
theorem ggX1_number_X1_isDigit : GoodIn wsX1_number wsX1_isDigit := goodIn_r _ [10] (by decide +kernel) (by decide +kernel)
set_option maxRecDepth 20000 in
theorem gX1_number_X1_isDigit : GoodIn wsX1_number (va_wsS RX1 23 yX1_isDigit wsX1_isDigit) := goodIn_app (goodIn_of _ (by decide +kernel)) ggX1_number_X1_isDigit
theorem dX1_number_0 : decode cX1_number 0 = .ok (.iconst 0, 1) := by decide +kernel
theorem dX1_number_1 : decode cX1_number 1 = .ok (.istore_n 2, 1) := by decide +kernel
theorem dX1_number_2 : decode cX1_number 2 = .ok (.iconst 0, 1) := by decide +kernel
theorem dX1_number_3 : decode cX1_number 3 = .ok (.istore_n 3, 1) := by decide +kernel
theorem dX1_number_4 : decode cX1_number 4 = .ok (.iconst 0, 1) := by decide +kernel
theorem dX1_number_5 : decode cX1_number 5 = .ok (.istore 4, 2) := by decide +kernel
theorem dX1_number_7 : decode cX1_number 7 = .ok (.iload 4, 2) := by decide +kernel
theorem dX1_number_9 : decode cX1_number 9 = .ok (.aload_n 0, 1) := by decide +kernel
theorem dX1_number_10 : decode cX1_number 10 = .ok (.getfield 15, 3) := by decide +kernel
theorem dX1_number_13 : decode cX1_number 13 = .ok (.if_icmp .ge 47, 3) := by decide +kernel
theorem dX1_number_16 : decode cX1_number 16 = .ok (.aload_n 0, 1) := by decide +kernel
theorem dX1_number_17 : decode cX1_number 17 = .ok (.iload 4, 2) := by decide +kernel
theorem dX1_number_19 : decode cX1_number 19 = .ok (.invokevirtual 19, 3) := by decide +kernel
theorem dX1_number_22 : decode cX1_number 22 = .ok (.istore 5, 2) := by decide +kernel
theorem dX1_number_24 : decode cX1_number 24 = .ok (.iload 5, 2) := by decide +kernel
theorem dX1_number_26 : decode cX1_number 26 = .ok (.invokestatic 23, 3) := by decide +kernel
theorem dX1_number_29 : decode cX1_number 29 = .ok (.ifCond .ne 9, 3) := by decide +kernel
theorem dX1_number_32 : decode cX1_number 32 = .ok (.iinc 2 1, 3) := by decide +kernel
theorem dX1_number_35 : decode cX1_number 35 = .ok (.goto 19, 3) := by decide +kernel
theorem dX1_number_38 : decode cX1_number 38 = .ok (.iload_n 2, 1) := by decide +kernel
theorem dX1_number_39 : decode cX1_number 39 = .ok (.iload_n 1, 1) := by decide +kernel
theorem dX1_number_40 : decode cX1_number 40 = .ok (.if_icmp .ne 14, 3) := by decide +kernel
theorem dX1_number_43 : decode cX1_number 43 = .ok (.iload_n 3, 1) := by decide +kernel
theorem dX1_number_44 : decode cX1_number 44 = .ok (.bipush 10, 2) := by decide +kernel
theorem dX1_number_46 : decode cX1_number 46 = .ok (.imul, 1) := by decide +kernel
theorem dX1_number_47 : decode cX1_number 47 = .ok (.iload 5, 2) := by decide +kernel
theorem dX1_number_49 : decode cX1_number 49 = .ok (.bipush 48, 2) := by decide +kernel
theorem dX1_number_51 : decode cX1_number 51 = .ok (.isub, 1) := by decide +kernel
theorem dX1_number_52 : decode cX1_number 52 = .ok (.iadd, 1) := by decide +kernel
theorem dX1_number_53 : decode cX1_number 53 = .ok (.istore_n 3, 1) := by decide +kernel
theorem dX1_number_54 : decode cX1_number 54 = .ok (.iinc 4 1, 3) := by decide +kernel
theorem dX1_number_57 : decode cX1_number 57 = .ok (.goto (-50), 3) := by decide +kernel
theorem dX1_number_60 : decode cX1_number 60 = .ok (.iload_n 3, 1) := by decide +kernel
theorem dX1_number_61 : decode cX1_number 61 = .ok (.ireturn, 1) := by decide +kernel
set_option maxRecDepth 20000 in
theorem ggX2_init_X0_init : GoodIn wsX2_init wsX0_init := goodIn_r _ [10, 11, 2, 3, 12, 13, 14, 15, 16, 17, 18, 19, 20, 21, 22, 23, 24, 25, 26, 27, 28, 29, 30, 31, 32, 33, 34, 35, 36, 37, 38, 39, 40, 41, 42, 43, 44, 45, 61, 62, 63, 64, 65, 49, 50, 51, 52, 53, 54, 55, 56, 57, 58, 59, 60, 66] (by decide +kernel) (by decide +kernel)
set_option maxRecDepth 20000 in
theorem gX2_init_X0_init : GoodIn wsX2_init (wsX0_init) := ggX2_init_X0_init
theorem dX2_init_0 : decode cX2_init 0 = .ok (.aload_n 0, 1) := by decide +kernel
theorem dX2_init_1 : decode cX2_init 1 = .ok (.invokespecial 3, 3) := by decide +kernel
theorem dX2_init_4 : decode cX2_init 4 = .ok (.aload_n 0, 1) := by decide +kernel
theorem dX2_init_5 : decode cX2_init 5 = .ok (.iconst 4, 1) := by decide +kernel
theorem dX2_init_6 : decode cX2_init 6 = .ok (.anewarray 9, 3) := by decide +kernel
theorem dX2_init_9 : decode cX2_init 9 = .ok (.putfield 11, 3) := by decide +kernel
theorem dX2_init_12 : decode cX2_init 12 = .ok (.iconst 0, 1) := by decide +kernel
theorem dX2_init_13 : decode cX2_init 13 = .ok (.istore_n 1, 1) := by decide +kernel
theorem dX2_init_14 : decode cX2_init 14 = .ok (.iload_n 1, 1) := by decide +kernel
theorem dX2_init_15 : decode cX2_init 15 = .ok (.aload_n 0, 1) := by decide +kernel
theorem dX2_init_16 : decode cX2_init 16 = .ok (.getfield 11, 3) := by decide +kernel
theorem dX2_init_19 : decode cX2_init 19 = .ok (.arraylength, 1) := by decide +kernel
theorem dX2_init_20 : decode cX2_init 20 = .ok (.if_icmp .ge 22, 3) := by decide +kernel
theorem dX2_init_23 : decode cX2_init 23 = .ok (.aload_n 0, 1) := by decide +kernel
theorem dX2_init_24 : decode cX2_init 24 = .ok (.getfield 11, 3) := by decide +kernel
theorem dX2_init_27 : decode cX2_init 27 = .ok (.iload_n 1, 1) := by decide +kernel
theorem dX2_init_28 : decode cX2_init 28 = .ok (.new 9, 3) := by decide +kernel
theorem dX2_init_31 : decode cX2_init 31 = .ok (.dup, 1) := by decide +kernel
theorem dX2_init_32 : decode cX2_init 32 = .ok (.invokespecial 17, 3) := by decide +kernel
theorem dX2_init_35 : decode cX2_init 35 = .ok (.aastore, 1) := by decide +kernel
theorem dX2_init_36 : decode cX2_init 36 = .ok (.iinc 1 1, 3) := by decide +kernel
theorem dX2_init_39 : decode cX2_init 39 = .ok (.goto (-25), 3) := by decide +kernel
theorem dX2_init_42 : decode cX2_init 42 = .ok (.return_, 1) := by decide +kernel
set_option maxRecDepth 20000 in
theorem ggX2_push_X2_stateAt : GoodIn wsX2_push wsX2_stateAt := goodIn_r _ [11, 12, 47, 48, 49] (by decide +kernel) (by decide +kernel)
set_option maxRecDepth 20000 in
theorem gX2_push_X2_stateAt : GoodIn wsX2_push (wsV RX2 31 RX2 yX2_stateAt wsX2_stateAt) := goodIn_app (goodIn_of _ (by decide +kernel)) ggX2_push_X2_stateAt
set_option maxRecDepth 20000 in
theorem ggX2_push_X0_copyFrom : GoodIn wsX2_push wsX0_copyFrom := goodIn_r _ [17, 18, 19, 20, 21, 22, 23, 24, 25, 26, 27, 28, 29, 30, 31, 32, 33, 34, 35, 36, 37, 38, 39, 40, 41, 42, 43, 44, 45, 46, 50, 51, 52, 53, 54, 55, 56, 57, 58, 59, 60, 61, 62, 63, 64, 65, 66, 67] (by decide +kernel) (by decide +kernel)
set_option maxRecDepth 20000 in
theorem gX2_push_X0_copyFrom : GoodIn wsX2_push (wsV RX2 35 RX0 yX0_copyFrom wsX0_copyFrom) := goodIn_app (goodIn_of _ (by decide +kernel)) ggX2_push_X0_copyFrom
theorem dX2_push_0 : decode cX2_push 0 = .ok (.aload_n 0, 1) := by decide +kernel
theorem dX2_push_1 : decode cX2_push 1 = .ok (.aload_n 0, 1) := by decide +kernel
theorem dX2_push_2 : decode cX2_push 2 = .ok (.getfield 18, 3) := by decide +kernel
theorem dX2_push_5 : decode cX2_push 5 = .ok (.iconst 1, 1) := by decide +kernel
theorem dX2_push_6 : decode cX2_push 6 = .ok (.iadd, 1) := by decide +kernel
theorem dX2_push_7 : decode cX2_push 7 = .ok (.iconst 4, 1) := by decide +kernel
theorem dX2_push_8 : decode cX2_push 8 = .ok (.if_icmp .ge 12, 3) := by decide +kernel
theorem dX2_push_11 : decode cX2_push 11 = .ok (.aload_n 0, 1) := by decide +kernel
theorem dX2_push_12 : decode cX2_push 12 = .ok (.getfield 18, 3) := by decide +kernel
theorem dX2_push_15 : decode cX2_push 15 = .ok (.iconst 1, 1) := by decide +kernel
theorem dX2_push_16 : decode cX2_push 16 = .ok (.iadd, 1) := by decide +kernel
theorem dX2_push_17 : decode cX2_push 17 = .ok (.goto 4, 3) := by decide +kernel
theorem dX2_push_20 : decode cX2_push 20 = .ok (.iconst 0, 1) := by decide +kernel
theorem dX2_push_21 : decode cX2_push 21 = .ok (.putfield 18, 3) := by decide +kernel
theorem dX2_push_24 : decode cX2_push 24 = .ok (.aload_n 0, 1) := by decide +kernel
theorem dX2_push_25 : decode cX2_push 25 = .ok (.aload_n 0, 1) := by decide +kernel
theorem dX2_push_26 : decode cX2_push 26 = .ok (.getfield 22, 3) := by decide +kernel
theorem dX2_push_29 : decode cX2_push 29 = .ok (.iconst 1, 1) := by decide +kernel
theorem dX2_push_30 : decode cX2_push 30 = .ok (.iadd, 1) := by decide +kernel
theorem dX2_push_31 : decode cX2_push 31 = .ok (.iconst 4, 1) := by decide +kernel
theorem dX2_push_32 : decode cX2_push 32 = .ok (.invokestatic 25, 3) := by decide +kernel
theorem dX2_push_35 : decode cX2_push 35 = .ok (.putfield 22, 3) := by decide +kernel
theorem dX2_push_38 : decode cX2_push 38 = .ok (.aload_n 0, 1) := by decide +kernel
theorem dX2_push_39 : decode cX2_push 39 = .ok (.aload_n 0, 1) := by decide +kernel
theorem dX2_push_40 : decode cX2_push 40 = .ok (.getfield 18, 3) := by decide +kernel
theorem dX2_push_43 : decode cX2_push 43 = .ok (.invokevirtual 31, 3) := by decide +kernel
theorem dX2_push_46 : decode cX2_push 46 = .ok (.astore_n 2, 1) := by decide +kernel
theorem dX2_push_47 : decode cX2_push 47 = .ok (.aload_n 2, 1) := by decide +kernel
theorem dX2_push_48 : decode cX2_push 48 = .ok (.ifnull 8, 3) := by decide +kernel
theorem dX2_push_51 : decode cX2_push 51 = .ok (.aload_n 2, 1) := by decide +kernel
theorem dX2_push_52 : decode cX2_push 52 = .ok (.aload_n 1, 1) := by decide +kernel
theorem dX2_push_53 : decode cX2_push 53 = .ok (.invokevirtual 35, 3) := by decide +kernel
theorem dX2_push_56 : decode cX2_push 56 = .ok (.return_, 1) := by decide +kernel
set_option maxRecDepth 20000 in
theorem ggX2_pop_X2_stateAt : GoodIn wsX2_pop wsX2_stateAt := goodIn_r _ [7, 8, 43, 44, 45] (by decide +kernel) (by decide +kernel)
set_option maxRecDepth 20000 in
theorem gX2_pop_X2_stateAt : GoodIn wsX2_pop (wsV RX2 31 RX2 yX2_stateAt wsX2_stateAt) := goodIn_app (goodIn_of _ (by decide +kernel)) ggX2_pop_X2_stateAt
set_option maxRecDepth 20000 in
theorem ggX2_pop_X0_copyFrom : GoodIn wsX2_pop wsX0_copyFrom := goodIn_r _ [13, 14, 15, 16, 17, 18, 19, 20, 21, 22, 23, 24, 25, 26, 27, 28, 29, 30, 31, 32, 33, 34, 35, 36, 37, 38, 39, 40, 41, 42, 46, 47, 48, 49, 50, 51, 52, 53, 54, 55, 56, 57, 58, 59, 60, 61, 62, 63] (by decide +kernel) (by decide +kernel)
set_option maxRecDepth 20000 in
theorem gX2_pop_X0_copyFrom : GoodIn wsX2_pop (wsV RX2 35 RX0 yX0_copyFrom wsX0_copyFrom) := goodIn_app (goodIn_of _ (by decide +kernel)) ggX2_pop_X0_copyFrom
theorem dX2_pop_0 : decode cX2_pop 0 = .ok (.aload_n 0, 1) := by decide +kernel
theorem dX2_pop_1 : decode cX2_pop 1 = .ok (.aload_n 0, 1) := by decide +kernel
theorem dX2_pop_2 : decode cX2_pop 2 = .ok (.getfield 18, 3) := by decide +kernel
theorem dX2_pop_5 : decode cX2_pop 5 = .ok (.invokevirtual 31, 3) := by decide +kernel
theorem dX2_pop_8 : decode cX2_pop 8 = .ok (.astore_n 2, 1) := by decide +kernel
theorem dX2_pop_9 : decode cX2_pop 9 = .ok (.aload_n 0, 1) := by decide +kernel
theorem dX2_pop_10 : decode cX2_pop 10 = .ok (.getfield 22, 3) := by decide +kernel
theorem dX2_pop_13 : decode cX2_pop 13 = .ok (.ifCond .le 43, 3) := by decide +kernel
theorem dX2_pop_16 : decode cX2_pop 16 = .ok (.aload_n 2, 1) := by decide +kernel
theorem dX2_pop_17 : decode cX2_pop 17 = .ok (.ifnull 39, 3) := by decide +kernel
theorem dX2_pop_20 : decode cX2_pop 20 = .ok (.aload_n 1, 1) := by decide +kernel
theorem dX2_pop_21 : decode cX2_pop 21 = .ok (.aload_n 2, 1) := by decide +kernel
theorem dX2_pop_22 : decode cX2_pop 22 = .ok (.invokevirtual 35, 3) := by decide +kernel
theorem dX2_pop_25 : decode cX2_pop 25 = .ok (.aload_n 0, 1) := by decide +kernel
theorem dX2_pop_26 : decode cX2_pop 26 = .ok (.dup, 1) := by decide +kernel
theorem dX2_pop_27 : decode cX2_pop 27 = .ok (.getfield 22, 3) := by decide +kernel
theorem dX2_pop_30 : decode cX2_pop 30 = .ok (.iconst 1, 1) := by decide +kernel
theorem dX2_pop_31 : decode cX2_pop 31 = .ok (.isub, 1) := by decide +kernel
theorem dX2_pop_32 : decode cX2_pop 32 = .ok (.putfield 22, 3) := by decide +kernel
theorem dX2_pop_35 : decode cX2_pop 35 = .ok (.aload_n 0, 1) := by decide +kernel
theorem dX2_pop_36 : decode cX2_pop 36 = .ok (.aload_n 0, 1) := by decide +kernel
theorem dX2_pop_37 : decode cX2_pop 37 = .ok (.getfield 18, 3) := by decide +kernel
theorem dX2_pop_40 : decode cX2_pop 40 = .ok (.ifCond .le 12, 3) := by decide +kernel
theorem dX2_pop_43 : decode cX2_pop 43 = .ok (.aload_n 0, 1) := by decide +kernel
theorem dX2_pop_44 : decode cX2_pop 44 = .ok (.getfield 18, 3) := by decide +kernel
theorem dX2_pop_47 : decode cX2_pop 47 = .ok (.iconst 1, 1) := by decide +kernel
theorem dX2_pop_48 : decode cX2_pop 48 = .ok (.isub, 1) := by decide +kernel
theorem dX2_pop_49 : decode cX2_pop 49 = .ok (.goto 4, 3) := by decide +kernel
theorem dX2_pop_52 : decode cX2_pop 52 = .ok (.iconst 3, 1) := by decide +kernel
theorem dX2_pop_53 : decode cX2_pop 53 = .ok (.putfield 18, 3) := by decide +kernel
theorem dX2_pop_56 : decode cX2_pop 56 = .ok (.return_, 1) := by decide +kernel
theorem dX2_stateAt_0 : decode cX2_stateAt 0 = .ok (.iload_n 1, 1) := by decide +kernel
theorem dX2_stateAt_1 : decode cX2_stateAt 1 = .ok (.ifCond .lt 21, 3) := by decide +kernel
theorem dX2_stateAt_4 : decode cX2_stateAt 4 = .ok (.iload_n 1, 1) := by decide +kernel
theorem dX2_stateAt_5 : decode cX2_stateAt 5 = .ok (.aload_n 0, 1) := by decide +kernel
theorem dX2_stateAt_6 : decode cX2_stateAt 6 = .ok (.getfield 11, 3) := by decide +kernel
theorem dX2_stateAt_9 : decode cX2_stateAt 9 = .ok (.arraylength, 1) := by decide +kernel
theorem dX2_stateAt_10 : decode cX2_stateAt 10 = .ok (.if_icmp .ge 12, 3) := by decide +kernel
theorem dX2_stateAt_13 : decode cX2_stateAt 13 = .ok (.aload_n 0, 1) := by decide +kernel
theorem dX2_stateAt_14 : decode cX2_stateAt 14 = .ok (.getfield 11, 3) := by decide +kernel
theorem dX2_stateAt_17 : decode cX2_stateAt 17 = .ok (.iload_n 1, 1) := by decide +kernel
theorem dX2_stateAt_18 : decode cX2_stateAt 18 = .ok (.aaload, 1) := by decide +kernel
theorem dX2_stateAt_19 : decode cX2_stateAt 19 = .ok (.goto 4, 3) := by decide +kernel
theorem dX2_stateAt_22 : decode cX2_stateAt 22 = .ok (.aconst_null, 1) := by decide +kernel
theorem dX2_stateAt_23 : decode cX2_stateAt 23 = .ok (.areturn, 1) := by decide +kernel
set_option maxRecDepth 20000 in
theorem ggX3_init_X4_init : GoodIn wsX3_init wsX4_init := goodIn_r _ [14, 15, 2, 3, 16, 17, 22] (by decide +kernel) (by decide +kernel)
set_option maxRecDepth 20000 in
theorem gX3_init_X4_init : GoodIn wsX3_init (wsX4_init) := ggX3_init_X4_init
set_option maxRecDepth 20000 in
theorem ggX3_init_X4_put : GoodIn wsX3_init wsX4_put := goodIn_r _ [21, 17, 22] (by decide +kernel) (by decide +kernel)
set_option maxRecDepth 20000 in
theorem gX3_init_X4_put : GoodIn wsX3_init (wsV RX3 29 RX4 yX4_put wsX4_put) := goodIn_app (goodIn_of _ (by decide +kernel)) ggX3_init_X4_put
theorem dX3_init_0 : decode cX3_init 0 = .ok (.aload_n 0, 1) := by decide +kernel
theorem dX3_init_1 : decode cX3_init 1 = .ok (.invokespecial 3, 3) := by decide +kernel
theorem dX3_init_4 : decode cX3_init 4 = .ok (.aload_n 0, 1) := by decide +kernel
theorem dX3_init_5 : decode cX3_init 5 = .ok (.new 9, 3) := by decide +kernel
theorem dX3_init_8 : decode cX3_init 8 = .ok (.dup, 1) := by decide +kernel
theorem dX3_init_9 : decode cX3_init 9 = .ok (.sipush 181, 3) := by decide +kernel
theorem dX3_init_12 : decode cX3_init 12 = .ok (.invokespecial 11, 3) := by decide +kernel
theorem dX3_init_15 : decode cX3_init 15 = .ok (.putfield 14, 3) := by decide +kernel
theorem dX3_init_18 : decode cX3_init 18 = .ok (.aload_n 0, 1) := by decide +kernel
theorem dX3_init_19 : decode cX3_init 19 = .ok (.new 9, 3) := by decide +kernel
theorem dX3_init_22 : decode cX3_init 22 = .ok (.dup, 1) := by decide +kernel
theorem dX3_init_23 : decode cX3_init 23 = .ok (.sipush 181, 3) := by decide +kernel
theorem dX3_init_26 : decode cX3_init 26 = .ok (.invokespecial 11, 3) := by decide +kernel
theorem dX3_init_29 : decode cX3_init 29 = .ok (.putfield 20, 3) := by decide +kernel
theorem dX3_init_32 : decode cX3_init 32 = .ok (.aload_n 0, 1) := by decide +kernel
theorem dX3_init_33 : decode cX3_init 33 = .ok (.new 9, 3) := by decide +kernel
theorem dX3_init_36 : decode cX3_init 36 = .ok (.dup, 1) := by decide +kernel
theorem dX3_init_37 : decode cX3_init 37 = .ok (.sipush 181, 3) := by decide +kernel
theorem dX3_init_40 : decode cX3_init 40 = .ok (.invokespecial 11, 3) := by decide +kernel
theorem dX3_init_43 : decode cX3_init 43 = .ok (.putfield 23, 3) := by decide +kernel
theorem dX3_init_46 : decode cX3_init 46 = .ok (.aload_n 0, 1) := by decide +kernel
theorem dX3_init_47 : decode cX3_init 47 = .ok (.new 9, 3) := by decide +kernel
theorem dX3_init_50 : decode cX3_init 50 = .ok (.dup, 1) := by decide +kernel
theorem dX3_init_51 : decode cX3_init 51 = .ok (.sipush 181, 3) := by decide +kernel
theorem dX3_init_54 : decode cX3_init 54 = .ok (.invokespecial 11, 3) := by decide +kernel
theorem dX3_init_57 : decode cX3_init 57 = .ok (.putfield 26, 3) := by decide +kernel
theorem dX3_init_60 : decode cX3_init 60 = .ok (.aload_n 0, 1) := by decide +kernel
theorem dX3_init_61 : decode cX3_init 61 = .ok (.getfield 26, 3) := by decide +kernel
theorem dX3_init_64 : decode cX3_init 64 = .ok (.iconst 0, 1) := by decide +kernel
theorem dX3_init_65 : decode cX3_init 65 = .ok (.iconst (-1), 1) := by decide +kernel
theorem dX3_init_66 : decode cX3_init 66 = .ok (.invokevirtual 29, 3) := by decide +kernel
theorem dX3_init_69 : decode cX3_init 69 = .ok (.aload_n 0, 1) := by decide +kernel
theorem dX3_init_70 : decode cX3_init 70 = .ok (.iconst 1, 1) := by decide +kernel
theorem dX3_init_71 : decode cX3_init 71 = .ok (.putfield 33, 3) := by decide +kernel
theorem dX3_init_74 : decode cX3_init 74 = .ok (.return_, 1) := by decide +kernel
set_option maxRecDepth 20000 in
theorem ggX3_copyFrom_X4_copyFrom : GoodIn wsX3_copyFrom wsX4_copyFrom := goodIn_r _ [10, 11, 17] (by decide +kernel) (by decide +kernel)
set_option maxRecDepth 20000 in
theorem gX3_copyFrom_X4_copyFrom : GoodIn wsX3_copyFrom (wsV RX3 37 RX4 yX4_copyFrom wsX4_copyFrom) := goodIn_app (goodIn_of _ (by decide +kernel)) ggX3_copyFrom_X4_copyFrom
theorem dX3_copyFrom_0 : decode cX3_copyFrom 0 = .ok (.aload_n 0, 1) := by decide +kernel
theorem dX3_copyFrom_1 : decode cX3_copyFrom 1 = .ok (.aload_n 1, 1) := by decide +kernel
theorem dX3_copyFrom_2 : decode cX3_copyFrom 2 = .ok (.getfield 33, 3) := by decide +kernel
theorem dX3_copyFrom_5 : decode cX3_copyFrom 5 = .ok (.putfield 33, 3) := by decide +kernel
theorem dX3_copyFrom_8 : decode cX3_copyFrom 8 = .ok (.aload_n 0, 1) := by decide +kernel
theorem dX3_copyFrom_9 : decode cX3_copyFrom 9 = .ok (.getfield 14, 3) := by decide +kernel
theorem dX3_copyFrom_12 : decode cX3_copyFrom 12 = .ok (.aload_n 1, 1) := by decide +kernel
theorem dX3_copyFrom_13 : decode cX3_copyFrom 13 = .ok (.getfield 14, 3) := by decide +kernel
theorem dX3_copyFrom_16 : decode cX3_copyFrom 16 = .ok (.aload_n 0, 1) := by decide +kernel
theorem dX3_copyFrom_17 : decode cX3_copyFrom 17 = .ok (.getfield 33, 3) := by decide +kernel
theorem dX3_copyFrom_20 : decode cX3_copyFrom 20 = .ok (.invokevirtual 37, 3) := by decide +kernel
theorem dX3_copyFrom_23 : decode cX3_copyFrom 23 = .ok (.aload_n 0, 1) := by decide +kernel
theorem dX3_copyFrom_24 : decode cX3_copyFrom 24 = .ok (.getfield 20, 3) := by decide +kernel
theorem dX3_copyFrom_27 : decode cX3_copyFrom 27 = .ok (.aload_n 1, 1) := by decide +kernel
theorem dX3_copyFrom_28 : decode cX3_copyFrom 28 = .ok (.getfield 20, 3) := by decide +kernel
theorem dX3_copyFrom_31 : decode cX3_copyFrom 31 = .ok (.aload_n 0, 1) := by decide +kernel
theorem dX3_copyFrom_32 : decode cX3_copyFrom 32 = .ok (.getfield 33, 3) := by decide +kernel
theorem dX3_copyFrom_35 : decode cX3_copyFrom 35 = .ok (.invokevirtual 37, 3) := by decide +kernel
theorem dX3_copyFrom_38 : decode cX3_copyFrom 38 = .ok (.aload_n 0, 1) := by decide +kernel
theorem dX3_copyFrom_39 : decode cX3_copyFrom 39 = .ok (.getfield 23, 3) := by decide +kernel
theorem dX3_copyFrom_42 : decode cX3_copyFrom 42 = .ok (.aload_n 1, 1) := by decide +kernel
theorem dX3_copyFrom_43 : decode cX3_copyFrom 43 = .ok (.getfield 23, 3) := by decide +kernel
theorem dX3_copyFrom_46 : decode cX3_copyFrom 46 = .ok (.aload_n 0, 1) := by decide +kernel
theorem dX3_copyFrom_47 : decode cX3_copyFrom 47 = .ok (.getfield 33, 3) := by decide +kernel
theorem dX3_copyFrom_50 : decode cX3_copyFrom 50 = .ok (.invokevirtual 37, 3) := by decide +kernel
theorem dX3_copyFrom_53 : decode cX3_copyFrom 53 = .ok (.aload_n 0, 1) := by decide +kernel
theorem dX3_copyFrom_54 : decode cX3_copyFrom 54 = .ok (.getfield 26, 3) := by decide +kernel
theorem dX3_copyFrom_57 : decode cX3_copyFrom 57 = .ok (.aload_n 1, 1) := by decide +kernel
theorem dX3_copyFrom_58 : decode cX3_copyFrom 58 = .ok (.getfield 26, 3) := by decide +kernel
theorem dX3_copyFrom_61 : decode cX3_copyFrom 61 = .ok (.aload_n 0, 1) := by decide +kernel
theorem dX3_copyFrom_62 : decode cX3_copyFrom 62 = .ok (.getfield 33, 3) := by decide +kernel
theorem dX3_copyFrom_65 : decode cX3_copyFrom 65 = .ok (.invokevirtual 37, 3) := by decide +kernel
theorem dX3_copyFrom_68 : decode cX3_copyFrom 68 = .ok (.return_, 1) := by decide +kernel
set_option maxRecDepth 20000 in
theorem ggX3_x0Of_X4_at : GoodIn wsX3_x0Of wsX4_at := goodIn_r _ [6, 7, 13] (by decide +kernel) (by decide +kernel)
set_option maxRecDepth 20000 in
theorem gX3_x0Of_X4_at : GoodIn wsX3_x0Of (wsV RX3 41 RX4 yX4_at wsX4_at) := goodIn_app (goodIn_of _ (by decide +kernel)) ggX3_x0Of_X4_at
theorem dX3_x0Of_0 : decode cX3_x0Of 0 = .ok (.aload_n 0, 1) := by decide +kernel
theorem dX3_x0Of_1 : decode cX3_x0Of 1 = .ok (.getfield 14, 3) := by decide +kernel
theorem dX3_x0Of_4 : decode cX3_x0Of 4 = .ok (.iload_n 1, 1) := by decide +kernel
theorem dX3_x0Of_5 : decode cX3_x0Of 5 = .ok (.invokevirtual 41, 3) := by decide +kernel
theorem dX3_x0Of_8 : decode cX3_x0Of 8 = .ok (.ireturn, 1) := by decide +kernel
set_option maxRecDepth 20000 in
theorem ggX3_y0Of_X4_at : GoodIn wsX3_y0Of wsX4_at := goodIn_r _ [6, 7, 13] (by decide +kernel) (by decide +kernel)
set_option maxRecDepth 20000 in
theorem gX3_y0Of_X4_at : GoodIn wsX3_y0Of (wsV RX3 41 RX4 yX4_at wsX4_at) := goodIn_app (goodIn_of _ (by decide +kernel)) ggX3_y0Of_X4_at
theorem dX3_y0Of_0 : decode cX3_y0Of 0 = .ok (.aload_n 0, 1) := by decide +kernel
theorem dX3_y0Of_1 : decode cX3_y0Of 1 = .ok (.getfield 20, 3) := by decide +kernel
theorem dX3_y0Of_4 : decode cX3_y0Of 4 = .ok (.iload_n 1, 1) := by decide +kernel
theorem dX3_y0Of_5 : decode cX3_y0Of 5 = .ok (.invokevirtual 41, 3) := by decide +kernel
theorem dX3_y0Of_8 : decode cX3_y0Of 8 = .ok (.ireturn, 1) := by decide +kernel
set_option maxRecDepth 20000 in
theorem ggX3_x1Of_X4_at : GoodIn wsX3_x1Of wsX4_at := goodIn_r _ [7, 8, 17] (by decide +kernel) (by decide +kernel)
set_option maxRecDepth 20000 in
theorem gX3_x1Of_X4_at : GoodIn wsX3_x1Of (wsV RX3 41 RX4 yX4_at wsX4_at) := goodIn_app (goodIn_of _ (by decide +kernel)) ggX3_x1Of_X4_at
set_option maxRecDepth 20000 in
theorem ggX3_x1Of_X5_widthAt : GoodIn wsX3_x1Of wsX5_widthAt := goodIn_r _ [11] (by decide +kernel) (by decide +kernel)
set_option maxRecDepth 20000 in
theorem gX3_x1Of_X5_widthAt_n45 : GoodIn wsX3_x1Of (wsX5_widthAt) := ggX3_x1Of_X5_widthAt
theorem dX3_x1Of_0 : decode cX3_x1Of 0 = .ok (.aload_n 0, 1) := by decide +kernel
theorem dX3_x1Of_1 : decode cX3_x1Of 1 = .ok (.getfield 14, 3) := by decide +kernel
theorem dX3_x1Of_4 : decode cX3_x1Of 4 = .ok (.iload_n 1, 1) := by decide +kernel
theorem dX3_x1Of_5 : decode cX3_x1Of 5 = .ok (.invokevirtual 41, 3) := by decide +kernel
theorem dX3_x1Of_8 : decode cX3_x1Of 8 = .ok (.aload_n 0, 1) := by decide +kernel
theorem dX3_x1Of_9 : decode cX3_x1Of 9 = .ok (.getfield 23, 3) := by decide +kernel
theorem dX3_x1Of_12 : decode cX3_x1Of 12 = .ok (.iload_n 1, 1) := by decide +kernel
theorem dX3_x1Of_13 : decode cX3_x1Of 13 = .ok (.invokevirtual 41, 3) := by decide +kernel
theorem dX3_x1Of_16 : decode cX3_x1Of 16 = .ok (.invokestatic 45, 3) := by decide +kernel
theorem dX3_x1Of_19 : decode cX3_x1Of 19 = .ok (.iadd, 1) := by decide +kernel
theorem dX3_x1Of_20 : decode cX3_x1Of 20 = .ok (.iconst 1, 1) := by decide +kernel
theorem dX3_x1Of_21 : decode cX3_x1Of 21 = .ok (.isub, 1) := by decide +kernel
theorem dX3_x1Of_22 : decode cX3_x1Of 22 = .ok (.ireturn, 1) := by decide +kernel
set_option maxRecDepth 20000 in
theorem ggX3_y1Of_X4_at : GoodIn wsX3_y1Of wsX4_at := goodIn_r _ [7, 8, 17] (by decide +kernel) (by decide +kernel)
set_option maxRecDepth 20000 in
theorem gX3_y1Of_X4_at : GoodIn wsX3_y1Of (wsV RX3 41 RX4 yX4_at wsX4_at) := goodIn_app (goodIn_of _ (by decide +kernel)) ggX3_y1Of_X4_at
set_option maxRecDepth 20000 in
theorem ggX3_y1Of_X5_heightAt : GoodIn wsX3_y1Of wsX5_heightAt := goodIn_r _ [11] (by decide +kernel) (by decide +kernel)
set_option maxRecDepth 20000 in
theorem gX3_y1Of_X5_heightAt_n48 : GoodIn wsX3_y1Of (wsX5_heightAt) := ggX3_y1Of_X5_heightAt
theorem dX3_y1Of_0 : decode cX3_y1Of 0 = .ok (.aload_n 0, 1) := by decide +kernel
theorem dX3_y1Of_1 : decode cX3_y1Of 1 = .ok (.getfield 20, 3) := by decide +kernel
theorem dX3_y1Of_4 : decode cX3_y1Of 4 = .ok (.iload_n 1, 1) := by decide +kernel
theorem dX3_y1Of_5 : decode cX3_y1Of 5 = .ok (.invokevirtual 41, 3) := by decide +kernel
theorem dX3_y1Of_8 : decode cX3_y1Of 8 = .ok (.aload_n 0, 1) := by decide +kernel
theorem dX3_y1Of_9 : decode cX3_y1Of 9 = .ok (.getfield 23, 3) := by decide +kernel
theorem dX3_y1Of_12 : decode cX3_y1Of 12 = .ok (.iload_n 1, 1) := by decide +kernel
theorem dX3_y1Of_13 : decode cX3_y1Of 13 = .ok (.invokevirtual 41, 3) := by decide +kernel
theorem dX3_y1Of_16 : decode cX3_y1Of 16 = .ok (.invokestatic 48, 3) := by decide +kernel
theorem dX3_y1Of_19 : decode cX3_y1Of 19 = .ok (.iadd, 1) := by decide +kernel
theorem dX3_y1Of_20 : decode cX3_y1Of 20 = .ok (.iconst 1, 1) := by decide +kernel
theorem dX3_y1Of_21 : decode cX3_y1Of 21 = .ok (.isub, 1) := by decide +kernel
theorem dX3_y1Of_22 : decode cX3_y1Of 22 = .ok (.ireturn, 1) := by decide +kernel
set_option maxRecDepth 20000 in
theorem ggX3_depthOf_X4_at : GoodIn wsX3_depthOf wsX4_at := goodIn_r _ [6, 7, 13] (by decide +kernel) (by decide +kernel)
set_option maxRecDepth 20000 in
theorem gX3_depthOf_X4_at : GoodIn wsX3_depthOf (wsV RX3 41 RX4 yX4_at wsX4_at) := goodIn_app (goodIn_of _ (by decide +kernel)) ggX3_depthOf_X4_at
theorem dX3_depthOf_0 : decode cX3_depthOf 0 = .ok (.aload_n 0, 1) := by decide +kernel
theorem dX3_depthOf_1 : decode cX3_depthOf 1 = .ok (.getfield 23, 3) := by decide +kernel
theorem dX3_depthOf_4 : decode cX3_depthOf 4 = .ok (.iload_n 1, 1) := by decide +kernel
theorem dX3_depthOf_5 : decode cX3_depthOf 5 = .ok (.invokevirtual 41, 3) := by decide +kernel
theorem dX3_depthOf_8 : decode cX3_depthOf 8 = .ok (.ireturn, 1) := by decide +kernel
set_option maxRecDepth 20000 in
theorem ggX3_ownerOf_X4_at : GoodIn wsX3_ownerOf wsX4_at := goodIn_r _ [6, 7, 13] (by decide +kernel) (by decide +kernel)
set_option maxRecDepth 20000 in
theorem gX3_ownerOf_X4_at : GoodIn wsX3_ownerOf (wsV RX3 41 RX4 yX4_at wsX4_at) := goodIn_app (goodIn_of _ (by decide +kernel)) ggX3_ownerOf_X4_at
theorem dX3_ownerOf_0 : decode cX3_ownerOf 0 = .ok (.aload_n 0, 1) := by decide +kernel
theorem dX3_ownerOf_1 : decode cX3_ownerOf 1 = .ok (.getfield 26, 3) := by decide +kernel
theorem dX3_ownerOf_4 : decode cX3_ownerOf 4 = .ok (.iload_n 1, 1) := by decide +kernel
theorem dX3_ownerOf_5 : decode cX3_ownerOf 5 = .ok (.invokevirtual 41, 3) := by decide +kernel
theorem dX3_ownerOf_8 : decode cX3_ownerOf 8 = .ok (.ireturn, 1) := by decide +kernel
set_option maxRecDepth 20000 in
theorem ggX3_ownerAt_X3_find : GoodIn wsX3_ownerAt wsX3_find := goodIn_r _ [6, 7, 8, 9, 10, 5, 11, 12, 13, 14, 15, 16, 17, 18, 19, 20, 21, 22, 23, 24, 25, 26, 27, 28, 29, 30, 31] (by decide +kernel) (by decide +kernel)
set_option maxRecDepth 20000 in
theorem gX3_ownerAt_X3_find : GoodIn wsX3_ownerAt (wsV RX3 51 RX3 yX3_find wsX3_find) := goodIn_app (goodIn_of _ (by decide +kernel)) ggX3_ownerAt_X3_find
set_option maxRecDepth 20000 in
theorem ggX3_ownerAt_X4_at : GoodIn wsX3_ownerAt wsX4_at := goodIn_r _ [19, 20, 31] (by decide +kernel) (by decide +kernel)
set_option maxRecDepth 20000 in
theorem gX3_ownerAt_X4_at : GoodIn wsX3_ownerAt (wsV RX3 41 RX4 yX4_at wsX4_at) := goodIn_app (goodIn_of _ (by decide +kernel)) ggX3_ownerAt_X4_at
theorem dX3_ownerAt_0 : decode cX3_ownerAt 0 = .ok (.aload_n 0, 1) := by decide +kernel
theorem dX3_ownerAt_1 : decode cX3_ownerAt 1 = .ok (.getfield 26, 3) := by decide +kernel
theorem dX3_ownerAt_4 : decode cX3_ownerAt 4 = .ok (.aload_n 0, 1) := by decide +kernel
theorem dX3_ownerAt_5 : decode cX3_ownerAt 5 = .ok (.iload_n 1, 1) := by decide +kernel
theorem dX3_ownerAt_6 : decode cX3_ownerAt 6 = .ok (.iload_n 2, 1) := by decide +kernel
theorem dX3_ownerAt_7 : decode cX3_ownerAt 7 = .ok (.invokevirtual 51, 3) := by decide +kernel
theorem dX3_ownerAt_10 : decode cX3_ownerAt 10 = .ok (.invokevirtual 41, 3) := by decide +kernel
theorem dX3_ownerAt_13 : decode cX3_ownerAt 13 = .ok (.ireturn, 1) := by decide +kernel
set_option maxRecDepth 20000 in
theorem ggX3_has_X4_at : GoodIn wsX3_has wsX4_at := goodIn_r _ [8, 9, 20] (by decide +kernel) (by decide +kernel)
set_option maxRecDepth 20000 in
theorem gX3_has_X4_at : GoodIn wsX3_has (wsV RX3 41 RX4 yX4_at wsX4_at) := goodIn_app (goodIn_of _ (by decide +kernel)) ggX3_has_X4_at
set_option maxRecDepth 20000 in
theorem ggX3_has_X5_widthAt : GoodIn wsX3_has wsX5_widthAt := goodIn_r _ [12] (by decide +kernel) (by decide +kernel)
set_option maxRecDepth 20000 in
theorem gX3_has_X5_widthAt_n45 : GoodIn wsX3_has (wsX5_widthAt) := ggX3_has_X5_widthAt
set_option maxRecDepth 20000 in
theorem ggX3_has_X5_heightAt : GoodIn wsX3_has wsX5_heightAt := goodIn_r _ [14] (by decide +kernel) (by decide +kernel)
set_option maxRecDepth 20000 in
theorem gX3_has_X5_heightAt_n48 : GoodIn wsX3_has (wsX5_heightAt) := ggX3_has_X5_heightAt

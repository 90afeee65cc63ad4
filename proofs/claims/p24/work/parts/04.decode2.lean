theorem dX3_has_0 : decode cX3_has 0 = .ok (.iload_n 2, 1) := by decide +kernel
theorem dX3_has_1 : decode cX3_has 1 = .ok (.aload_n 0, 1) := by decide +kernel
theorem dX3_has_2 : decode cX3_has 2 = .ok (.getfield 14, 3) := by decide +kernel
theorem dX3_has_5 : decode cX3_has 5 = .ok (.iload_n 1, 1) := by decide +kernel
theorem dX3_has_6 : decode cX3_has 6 = .ok (.invokevirtual 41, 3) := by decide +kernel
theorem dX3_has_9 : decode cX3_has 9 = .ok (.isub, 1) := by decide +kernel
theorem dX3_has_10 : decode cX3_has 10 = .ok (.istore 4, 2) := by decide +kernel
theorem dX3_has_12 : decode cX3_has 12 = .ok (.iload_n 3, 1) := by decide +kernel
theorem dX3_has_13 : decode cX3_has 13 = .ok (.aload_n 0, 1) := by decide +kernel
theorem dX3_has_14 : decode cX3_has 14 = .ok (.getfield 20, 3) := by decide +kernel
theorem dX3_has_17 : decode cX3_has 17 = .ok (.iload_n 1, 1) := by decide +kernel
theorem dX3_has_18 : decode cX3_has 18 = .ok (.invokevirtual 41, 3) := by decide +kernel
theorem dX3_has_21 : decode cX3_has 21 = .ok (.isub, 1) := by decide +kernel
theorem dX3_has_22 : decode cX3_has 22 = .ok (.istore 5, 2) := by decide +kernel
theorem dX3_has_24 : decode cX3_has 24 = .ok (.aload_n 0, 1) := by decide +kernel
theorem dX3_has_25 : decode cX3_has 25 = .ok (.getfield 23, 3) := by decide +kernel
theorem dX3_has_28 : decode cX3_has 28 = .ok (.iload_n 1, 1) := by decide +kernel
theorem dX3_has_29 : decode cX3_has 29 = .ok (.invokevirtual 41, 3) := by decide +kernel
theorem dX3_has_32 : decode cX3_has 32 = .ok (.istore 6, 2) := by decide +kernel
theorem dX3_has_34 : decode cX3_has 34 = .ok (.iload 4, 2) := by decide +kernel
theorem dX3_has_36 : decode cX3_has 36 = .ok (.ifCond .lt 32, 3) := by decide +kernel
theorem dX3_has_39 : decode cX3_has 39 = .ok (.iload 4, 2) := by decide +kernel
theorem dX3_has_41 : decode cX3_has 41 = .ok (.iload 6, 2) := by decide +kernel
theorem dX3_has_43 : decode cX3_has 43 = .ok (.invokestatic 45, 3) := by decide +kernel
theorem dX3_has_46 : decode cX3_has 46 = .ok (.if_icmp .ge 22, 3) := by decide +kernel
theorem dX3_has_49 : decode cX3_has 49 = .ok (.iload 5, 2) := by decide +kernel
theorem dX3_has_51 : decode cX3_has 51 = .ok (.ifCond .lt 17, 3) := by decide +kernel
theorem dX3_has_54 : decode cX3_has 54 = .ok (.iload 5, 2) := by decide +kernel
theorem dX3_has_56 : decode cX3_has 56 = .ok (.iload 6, 2) := by decide +kernel
theorem dX3_has_58 : decode cX3_has 58 = .ok (.invokestatic 48, 3) := by decide +kernel
theorem dX3_has_61 : decode cX3_has 61 = .ok (.if_icmp .ge 7, 3) := by decide +kernel
theorem dX3_has_64 : decode cX3_has 64 = .ok (.iconst 1, 1) := by decide +kernel
theorem dX3_has_65 : decode cX3_has 65 = .ok (.goto 4, 3) := by decide +kernel
theorem dX3_has_68 : decode cX3_has 68 = .ok (.iconst 0, 1) := by decide +kernel
theorem dX3_has_69 : decode cX3_has 69 = .ok (.ireturn, 1) := by decide +kernel
set_option maxRecDepth 20000 in
theorem ggX3_find_X3_has : GoodIn wsX3_find wsX3_has := goodIn_r _ [6, 7, 8, 9, 10, 11, 12, 13, 14, 15, 16, 17, 18, 19, 20, 21, 22, 23, 24, 25, 26] (by decide +kernel) (by decide +kernel)
set_option maxRecDepth 20000 in
theorem gX3_find_X3_has : GoodIn wsX3_find (wsV RX3 55 RX3 yX3_has wsX3_has) := goodIn_app (goodIn_of _ (by decide +kernel)) ggX3_find_X3_has
theorem dX3_find_0 : decode cX3_find 0 = .ok (.iconst 0, 1) := by decide +kernel
theorem dX3_find_1 : decode cX3_find 1 = .ok (.istore_n 3, 1) := by decide +kernel
theorem dX3_find_2 : decode cX3_find 2 = .ok (.iload_n 3, 1) := by decide +kernel
theorem dX3_find_3 : decode cX3_find 3 = .ok (.aload_n 0, 1) := by decide +kernel
theorem dX3_find_4 : decode cX3_find 4 = .ok (.getfield 33, 3) := by decide +kernel
theorem dX3_find_7 : decode cX3_find 7 = .ok (.if_icmp .ge 21, 3) := by decide +kernel
theorem dX3_find_10 : decode cX3_find 10 = .ok (.aload_n 0, 1) := by decide +kernel
theorem dX3_find_11 : decode cX3_find 11 = .ok (.iload_n 3, 1) := by decide +kernel
theorem dX3_find_12 : decode cX3_find 12 = .ok (.iload_n 1, 1) := by decide +kernel
theorem dX3_find_13 : decode cX3_find 13 = .ok (.iload_n 2, 1) := by decide +kernel
theorem dX3_find_14 : decode cX3_find 14 = .ok (.invokevirtual 55, 3) := by decide +kernel
theorem dX3_find_17 : decode cX3_find 17 = .ok (.ifCond .eq 5, 3) := by decide +kernel
theorem dX3_find_20 : decode cX3_find 20 = .ok (.iload_n 3, 1) := by decide +kernel
theorem dX3_find_21 : decode cX3_find 21 = .ok (.ireturn, 1) := by decide +kernel
theorem dX3_find_22 : decode cX3_find 22 = .ok (.iinc 3 1, 3) := by decide +kernel
theorem dX3_find_25 : decode cX3_find 25 = .ok (.goto (-23), 3) := by decide +kernel
theorem dX3_find_28 : decode cX3_find 28 = .ok (.iconst (-1), 1) := by decide +kernel
theorem dX3_find_29 : decode cX3_find 29 = .ok (.ireturn, 1) := by decide +kernel
set_option maxRecDepth 20000 in
theorem ggX3_otherHalf_X4_at : GoodIn wsX3_otherHalf wsX4_at := goodIn_r _ [8, 9, 36] (by decide +kernel) (by decide +kernel)
set_option maxRecDepth 20000 in
theorem gX3_otherHalf_X4_at : GoodIn wsX3_otherHalf (wsV RX3 41 RX4 yX4_at wsX4_at) := goodIn_app (goodIn_of _ (by decide +kernel)) ggX3_otherHalf_X4_at
set_option maxRecDepth 20000 in
theorem ggX3_otherHalf_X5_otherHalfX0 : GoodIn wsX3_otherHalf wsX5_otherHalfX0 := goodIn_r _ [12, 13, 14, 11, 15] (by decide +kernel) (by decide +kernel)
set_option maxRecDepth 20000 in
theorem gX3_otherHalf_X5_otherHalfX0_n59 : GoodIn wsX3_otherHalf (wsX5_otherHalfX0) := ggX3_otherHalf_X5_otherHalfX0
set_option maxRecDepth 20000 in
theorem ggX3_otherHalf_X5_otherHalfY0 : GoodIn wsX3_otherHalf wsX5_otherHalfY0 := goodIn_r _ [17, 18, 19, 11, 20] (by decide +kernel) (by decide +kernel)
set_option maxRecDepth 20000 in
theorem gX3_otherHalf_X5_otherHalfY0_n62 : GoodIn wsX3_otherHalf (wsX5_otherHalfY0) := ggX3_otherHalf_X5_otherHalfY0
set_option maxRecDepth 20000 in
theorem ggX3_otherHalf_X3_find : GoodIn wsX3_otherHalf wsX3_find := goodIn_r _ [25, 26, 27, 28, 29, 24, 30, 2, 3, 1, 4, 5, 6, 7, 8, 9, 14, 11, 15, 19, 20, 31, 32, 33, 34, 35, 36] (by decide +kernel) (by decide +kernel)
set_option maxRecDepth 20000 in
theorem gX3_otherHalf_X3_find : GoodIn wsX3_otherHalf (wsV RX3 51 RX3 yX3_find wsX3_find) := goodIn_app (goodIn_of _ (by decide +kernel)) ggX3_otherHalf_X3_find
theorem dX3_otherHalf_0 : decode cX3_otherHalf 0 = .ok (.aload_n 0, 1) := by decide +kernel
theorem dX3_otherHalf_1 : decode cX3_otherHalf 1 = .ok (.getfield 23, 3) := by decide +kernel
theorem dX3_otherHalf_4 : decode cX3_otherHalf 4 = .ok (.iload_n 1, 1) := by decide +kernel
theorem dX3_otherHalf_5 : decode cX3_otherHalf 5 = .ok (.invokevirtual 41, 3) := by decide +kernel
theorem dX3_otherHalf_8 : decode cX3_otherHalf 8 = .ok (.istore_n 2, 1) := by decide +kernel
theorem dX3_otherHalf_9 : decode cX3_otherHalf 9 = .ok (.iload_n 2, 1) := by decide +kernel
theorem dX3_otherHalf_10 : decode cX3_otherHalf 10 = .ok (.ifCond .ne 5, 3) := by decide +kernel
theorem dX3_otherHalf_13 : decode cX3_otherHalf 13 = .ok (.iconst (-1), 1) := by decide +kernel
theorem dX3_otherHalf_14 : decode cX3_otherHalf 14 = .ok (.ireturn, 1) := by decide +kernel
theorem dX3_otherHalf_15 : decode cX3_otherHalf 15 = .ok (.aload_n 0, 1) := by decide +kernel
theorem dX3_otherHalf_16 : decode cX3_otherHalf 16 = .ok (.aload_n 0, 1) := by decide +kernel
theorem dX3_otherHalf_17 : decode cX3_otherHalf 17 = .ok (.getfield 14, 3) := by decide +kernel
theorem dX3_otherHalf_20 : decode cX3_otherHalf 20 = .ok (.iload_n 1, 1) := by decide +kernel
theorem dX3_otherHalf_21 : decode cX3_otherHalf 21 = .ok (.invokevirtual 41, 3) := by decide +kernel
theorem dX3_otherHalf_24 : decode cX3_otherHalf 24 = .ok (.iload_n 2, 1) := by decide +kernel
theorem dX3_otherHalf_25 : decode cX3_otherHalf 25 = .ok (.invokestatic 59, 3) := by decide +kernel
theorem dX3_otherHalf_28 : decode cX3_otherHalf 28 = .ok (.aload_n 0, 1) := by decide +kernel
theorem dX3_otherHalf_29 : decode cX3_otherHalf 29 = .ok (.getfield 20, 3) := by decide +kernel
theorem dX3_otherHalf_32 : decode cX3_otherHalf 32 = .ok (.iload_n 1, 1) := by decide +kernel
theorem dX3_otherHalf_33 : decode cX3_otherHalf 33 = .ok (.invokevirtual 41, 3) := by decide +kernel
theorem dX3_otherHalf_36 : decode cX3_otherHalf 36 = .ok (.iload_n 2, 1) := by decide +kernel
theorem dX3_otherHalf_37 : decode cX3_otherHalf 37 = .ok (.invokestatic 62, 3) := by decide +kernel
theorem dX3_otherHalf_40 : decode cX3_otherHalf 40 = .ok (.invokevirtual 51, 3) := by decide +kernel
theorem dX3_otherHalf_43 : decode cX3_otherHalf 43 = .ok (.istore_n 3, 1) := by decide +kernel
theorem dX3_otherHalf_44 : decode cX3_otherHalf 44 = .ok (.aload_n 0, 1) := by decide +kernel
theorem dX3_otherHalf_45 : decode cX3_otherHalf 45 = .ok (.getfield 23, 3) := by decide +kernel
theorem dX3_otherHalf_48 : decode cX3_otherHalf 48 = .ok (.iload_n 3, 1) := by decide +kernel
theorem dX3_otherHalf_49 : decode cX3_otherHalf 49 = .ok (.invokevirtual 41, 3) := by decide +kernel
theorem dX3_otherHalf_52 : decode cX3_otherHalf 52 = .ok (.iload_n 2, 1) := by decide +kernel
theorem dX3_otherHalf_53 : decode cX3_otherHalf 53 = .ok (.if_icmp .ne 7, 3) := by decide +kernel
theorem dX3_otherHalf_56 : decode cX3_otherHalf 56 = .ok (.iload_n 3, 1) := by decide +kernel
theorem dX3_otherHalf_57 : decode cX3_otherHalf 57 = .ok (.goto 4, 3) := by decide +kernel
theorem dX3_otherHalf_60 : decode cX3_otherHalf 60 = .ok (.iconst (-1), 1) := by decide +kernel
theorem dX3_otherHalf_61 : decode cX3_otherHalf 61 = .ok (.ireturn, 1) := by decide +kernel
set_option maxRecDepth 20000 in
theorem ggX3_areBeside_X3_x0Of : GoodIn wsX3_areBeside wsX3_x0Of := goodIn_r _ [5, 6, 7, 8, 9, 10, 11, 12, 32, 33, 34, 35, 36, 37] (by decide +kernel) (by decide +kernel)
set_option maxRecDepth 20000 in
theorem gX3_areBeside_X3_x0Of : GoodIn wsX3_areBeside (wsV RX3 65 RX3 yX3_x0Of wsX3_x0Of) := goodIn_app (goodIn_of _ (by decide +kernel)) ggX3_areBeside_X3_x0Of
set_option maxRecDepth 20000 in
theorem ggX3_areBeside_X3_x1Of : GoodIn wsX3_areBeside wsX3_x1Of := goodIn_r _ [16, 6, 17, 7, 8, 9, 10, 11, 12, 18, 19, 20, 32, 33, 34, 35, 36, 37] (by decide +kernel) (by decide +kernel)
set_option maxRecDepth 20000 in
theorem gX3_areBeside_X3_x1Of : GoodIn wsX3_areBeside (wsV RX3 68 RX3 yX3_x1Of wsX3_x1Of) := goodIn_app (goodIn_of _ (by decide +kernel)) ggX3_areBeside_X3_x1Of
set_option maxRecDepth 20000 in
theorem ggX3_areBeside_X3_y0Of : GoodIn wsX3_areBeside wsX3_y0Of := goodIn_r _ [24, 25, 7, 8, 9, 10, 11, 12, 32, 33, 34, 35, 36, 37] (by decide +kernel) (by decide +kernel)
set_option maxRecDepth 20000 in
theorem gX3_areBeside_X3_y0Of : GoodIn wsX3_areBeside (wsV RX3 71 RX3 yX3_y0Of wsX3_y0Of) := goodIn_app (goodIn_of _ (by decide +kernel)) ggX3_areBeside_X3_y0Of
set_option maxRecDepth 20000 in
theorem ggX3_areBeside_X3_y1Of : GoodIn wsX3_areBeside wsX3_y1Of := goodIn_r _ [29, 25, 17, 7, 8, 9, 10, 11, 12, 30, 19, 31, 32, 33, 34, 35, 36, 37] (by decide +kernel) (by decide +kernel)
set_option maxRecDepth 20000 in
theorem gX3_areBeside_X3_y1Of : GoodIn wsX3_areBeside (wsV RX3 74 RX3 yX3_y1Of wsX3_y1Of) := goodIn_app (goodIn_of _ (by decide +kernel)) ggX3_areBeside_X3_y1Of
theorem dX3_areBeside_0 : decode cX3_areBeside 0 = .ok (.aload_n 0, 1) := by decide +kernel
theorem dX3_areBeside_1 : decode cX3_areBeside 1 = .ok (.iload_n 1, 1) := by decide +kernel
theorem dX3_areBeside_2 : decode cX3_areBeside 2 = .ok (.invokevirtual 65, 3) := by decide +kernel
theorem dX3_areBeside_5 : decode cX3_areBeside 5 = .ok (.aload_n 0, 1) := by decide +kernel
theorem dX3_areBeside_6 : decode cX3_areBeside 6 = .ok (.iload_n 2, 1) := by decide +kernel
theorem dX3_areBeside_7 : decode cX3_areBeside 7 = .ok (.invokevirtual 68, 3) := by decide +kernel
theorem dX3_areBeside_10 : decode cX3_areBeside 10 = .ok (.if_icmp .gt 20, 3) := by decide +kernel
theorem dX3_areBeside_13 : decode cX3_areBeside 13 = .ok (.aload_n 0, 1) := by decide +kernel
theorem dX3_areBeside_14 : decode cX3_areBeside 14 = .ok (.iload_n 2, 1) := by decide +kernel
theorem dX3_areBeside_15 : decode cX3_areBeside 15 = .ok (.invokevirtual 65, 3) := by decide +kernel
theorem dX3_areBeside_18 : decode cX3_areBeside 18 = .ok (.aload_n 0, 1) := by decide +kernel
theorem dX3_areBeside_19 : decode cX3_areBeside 19 = .ok (.iload_n 1, 1) := by decide +kernel
theorem dX3_areBeside_20 : decode cX3_areBeside 20 = .ok (.invokevirtual 68, 3) := by decide +kernel
theorem dX3_areBeside_23 : decode cX3_areBeside 23 = .ok (.if_icmp .gt 7, 3) := by decide +kernel
theorem dX3_areBeside_26 : decode cX3_areBeside 26 = .ok (.iconst 1, 1) := by decide +kernel
theorem dX3_areBeside_27 : decode cX3_areBeside 27 = .ok (.goto 4, 3) := by decide +kernel
theorem dX3_areBeside_30 : decode cX3_areBeside 30 = .ok (.iconst 0, 1) := by decide +kernel
theorem dX3_areBeside_31 : decode cX3_areBeside 31 = .ok (.istore_n 3, 1) := by decide +kernel
theorem dX3_areBeside_32 : decode cX3_areBeside 32 = .ok (.aload_n 0, 1) := by decide +kernel
theorem dX3_areBeside_33 : decode cX3_areBeside 33 = .ok (.iload_n 1, 1) := by decide +kernel
theorem dX3_areBeside_34 : decode cX3_areBeside 34 = .ok (.invokevirtual 71, 3) := by decide +kernel
theorem dX3_areBeside_37 : decode cX3_areBeside 37 = .ok (.aload_n 0, 1) := by decide +kernel
theorem dX3_areBeside_38 : decode cX3_areBeside 38 = .ok (.iload_n 2, 1) := by decide +kernel
theorem dX3_areBeside_39 : decode cX3_areBeside 39 = .ok (.invokevirtual 74, 3) := by decide +kernel
theorem dX3_areBeside_42 : decode cX3_areBeside 42 = .ok (.if_icmp .gt 20, 3) := by decide +kernel
theorem dX3_areBeside_45 : decode cX3_areBeside 45 = .ok (.aload_n 0, 1) := by decide +kernel
theorem dX3_areBeside_46 : decode cX3_areBeside 46 = .ok (.iload_n 2, 1) := by decide +kernel
theorem dX3_areBeside_47 : decode cX3_areBeside 47 = .ok (.invokevirtual 71, 3) := by decide +kernel
theorem dX3_areBeside_50 : decode cX3_areBeside 50 = .ok (.aload_n 0, 1) := by decide +kernel
theorem dX3_areBeside_51 : decode cX3_areBeside 51 = .ok (.iload_n 1, 1) := by decide +kernel
theorem dX3_areBeside_52 : decode cX3_areBeside 52 = .ok (.invokevirtual 74, 3) := by decide +kernel
theorem dX3_areBeside_55 : decode cX3_areBeside 55 = .ok (.if_icmp .gt 7, 3) := by decide +kernel
theorem dX3_areBeside_58 : decode cX3_areBeside 58 = .ok (.iconst 1, 1) := by decide +kernel
theorem dX3_areBeside_59 : decode cX3_areBeside 59 = .ok (.goto 4, 3) := by decide +kernel
theorem dX3_areBeside_62 : decode cX3_areBeside 62 = .ok (.iconst 0, 1) := by decide +kernel
theorem dX3_areBeside_63 : decode cX3_areBeside 63 = .ok (.istore 4, 2) := by decide +kernel
theorem dX3_areBeside_65 : decode cX3_areBeside 65 = .ok (.aload_n 0, 1) := by decide +kernel
theorem dX3_areBeside_66 : decode cX3_areBeside 66 = .ok (.iload_n 1, 1) := by decide +kernel
theorem dX3_areBeside_67 : decode cX3_areBeside 67 = .ok (.invokevirtual 68, 3) := by decide +kernel
theorem dX3_areBeside_70 : decode cX3_areBeside 70 = .ok (.iconst 1, 1) := by decide +kernel
theorem dX3_areBeside_71 : decode cX3_areBeside 71 = .ok (.iadd, 1) := by decide +kernel
theorem dX3_areBeside_72 : decode cX3_areBeside 72 = .ok (.aload_n 0, 1) := by decide +kernel
theorem dX3_areBeside_73 : decode cX3_areBeside 73 = .ok (.iload_n 2, 1) := by decide +kernel
theorem dX3_areBeside_74 : decode cX3_areBeside 74 = .ok (.invokevirtual 65, 3) := by decide +kernel
theorem dX3_areBeside_77 : decode cX3_areBeside 77 = .ok (.if_icmp .eq 18, 3) := by decide +kernel
theorem dX3_areBeside_80 : decode cX3_areBeside 80 = .ok (.aload_n 0, 1) := by decide +kernel
theorem dX3_areBeside_81 : decode cX3_areBeside 81 = .ok (.iload_n 2, 1) := by decide +kernel
theorem dX3_areBeside_82 : decode cX3_areBeside 82 = .ok (.invokevirtual 68, 3) := by decide +kernel
theorem dX3_areBeside_85 : decode cX3_areBeside 85 = .ok (.iconst 1, 1) := by decide +kernel
theorem dX3_areBeside_86 : decode cX3_areBeside 86 = .ok (.iadd, 1) := by decide +kernel
theorem dX3_areBeside_87 : decode cX3_areBeside 87 = .ok (.aload_n 0, 1) := by decide +kernel
theorem dX3_areBeside_88 : decode cX3_areBeside 88 = .ok (.iload_n 1, 1) := by decide +kernel
theorem dX3_areBeside_89 : decode cX3_areBeside 89 = .ok (.invokevirtual 65, 3) := by decide +kernel
theorem dX3_areBeside_92 : decode cX3_areBeside 92 = .ok (.if_icmp .ne 7, 3) := by decide +kernel
theorem dX3_areBeside_95 : decode cX3_areBeside 95 = .ok (.iconst 1, 1) := by decide +kernel
theorem dX3_areBeside_96 : decode cX3_areBeside 96 = .ok (.goto 4, 3) := by decide +kernel
theorem dX3_areBeside_99 : decode cX3_areBeside 99 = .ok (.iconst 0, 1) := by decide +kernel
theorem dX3_areBeside_100 : decode cX3_areBeside 100 = .ok (.istore 5, 2) := by decide +kernel
theorem dX3_areBeside_102 : decode cX3_areBeside 102 = .ok (.aload_n 0, 1) := by decide +kernel
theorem dX3_areBeside_103 : decode cX3_areBeside 103 = .ok (.iload_n 1, 1) := by decide +kernel
theorem dX3_areBeside_104 : decode cX3_areBeside 104 = .ok (.invokevirtual 74, 3) := by decide +kernel
theorem dX3_areBeside_107 : decode cX3_areBeside 107 = .ok (.iconst 1, 1) := by decide +kernel
theorem dX3_areBeside_108 : decode cX3_areBeside 108 = .ok (.iadd, 1) := by decide +kernel
theorem dX3_areBeside_109 : decode cX3_areBeside 109 = .ok (.aload_n 0, 1) := by decide +kernel
theorem dX3_areBeside_110 : decode cX3_areBeside 110 = .ok (.iload_n 2, 1) := by decide +kernel
theorem dX3_areBeside_111 : decode cX3_areBeside 111 = .ok (.invokevirtual 71, 3) := by decide +kernel
theorem dX3_areBeside_114 : decode cX3_areBeside 114 = .ok (.if_icmp .eq 18, 3) := by decide +kernel
theorem dX3_areBeside_117 : decode cX3_areBeside 117 = .ok (.aload_n 0, 1) := by decide +kernel
theorem dX3_areBeside_118 : decode cX3_areBeside 118 = .ok (.iload_n 2, 1) := by decide +kernel
theorem dX3_areBeside_119 : decode cX3_areBeside 119 = .ok (.invokevirtual 74, 3) := by decide +kernel
theorem dX3_areBeside_122 : decode cX3_areBeside 122 = .ok (.iconst 1, 1) := by decide +kernel
theorem dX3_areBeside_123 : decode cX3_areBeside 123 = .ok (.iadd, 1) := by decide +kernel
theorem dX3_areBeside_124 : decode cX3_areBeside 124 = .ok (.aload_n 0, 1) := by decide +kernel
theorem dX3_areBeside_125 : decode cX3_areBeside 125 = .ok (.iload_n 1, 1) := by decide +kernel
theorem dX3_areBeside_126 : decode cX3_areBeside 126 = .ok (.invokevirtual 71, 3) := by decide +kernel
theorem dX3_areBeside_129 : decode cX3_areBeside 129 = .ok (.if_icmp .ne 7, 3) := by decide +kernel
theorem dX3_areBeside_132 : decode cX3_areBeside 132 = .ok (.iconst 1, 1) := by decide +kernel
theorem dX3_areBeside_133 : decode cX3_areBeside 133 = .ok (.goto 4, 3) := by decide +kernel
theorem dX3_areBeside_136 : decode cX3_areBeside 136 = .ok (.iconst 0, 1) := by decide +kernel
theorem dX3_areBeside_137 : decode cX3_areBeside 137 = .ok (.istore 6, 2) := by decide +kernel
theorem dX3_areBeside_139 : decode cX3_areBeside 139 = .ok (.iload 5, 2) := by decide +kernel
theorem dX3_areBeside_141 : decode cX3_areBeside 141 = .ok (.ifCond .eq 8, 3) := by decide +kernel
theorem dX3_areBeside_144 : decode cX3_areBeside 144 = .ok (.iload 4, 2) := by decide +kernel
theorem dX3_areBeside_146 : decode cX3_areBeside 146 = .ok (.ifCond .ne 12, 3) := by decide +kernel
theorem dX3_areBeside_149 : decode cX3_areBeside 149 = .ok (.iload 6, 2) := by decide +kernel
theorem dX3_areBeside_151 : decode cX3_areBeside 151 = .ok (.ifCond .eq 11, 3) := by decide +kernel
theorem dX3_areBeside_154 : decode cX3_areBeside 154 = .ok (.iload_n 3, 1) := by decide +kernel
theorem dX3_areBeside_155 : decode cX3_areBeside 155 = .ok (.ifCond .eq 7, 3) := by decide +kernel
theorem dX3_areBeside_158 : decode cX3_areBeside 158 = .ok (.iconst 1, 1) := by decide +kernel
theorem dX3_areBeside_159 : decode cX3_areBeside 159 = .ok (.goto 4, 3) := by decide +kernel
theorem dX3_areBeside_162 : decode cX3_areBeside 162 = .ok (.iconst 0, 1) := by decide +kernel
theorem dX3_areBeside_163 : decode cX3_areBeside 163 = .ok (.ireturn, 1) := by decide +kernel
set_option maxRecDepth 20000 in
theorem ggX3_manyBeside_X3_areBeside : GoodIn wsX3_manyBeside wsX3_areBeside := goodIn_r _ [6, 7, 8, 9, 5, 10, 11, 12, 13, 14, 15, 16, 17, 18, 19, 20, 21, 22, 23, 24, 25, 26, 27, 28, 29, 30, 31, 32, 33, 34, 35, 36, 37, 38, 39, 40, 41, 42] (by decide +kernel) (by decide +kernel)
set_option maxRecDepth 20000 in
theorem gX3_manyBeside_X3_areBeside : GoodIn wsX3_manyBeside (wsV RX3 77 RX3 yX3_areBeside wsX3_areBeside) := goodIn_app (goodIn_of _ (by decide +kernel)) ggX3_manyBeside_X3_areBeside
theorem dX3_manyBeside_0 : decode cX3_manyBeside 0 = .ok (.iconst 0, 1) := by decide +kernel
theorem dX3_manyBeside_1 : decode cX3_manyBeside 1 = .ok (.istore_n 2, 1) := by decide +kernel
theorem dX3_manyBeside_2 : decode cX3_manyBeside 2 = .ok (.iconst 0, 1) := by decide +kernel
theorem dX3_manyBeside_3 : decode cX3_manyBeside 3 = .ok (.istore_n 3, 1) := by decide +kernel
theorem dX3_manyBeside_4 : decode cX3_manyBeside 4 = .ok (.iload_n 3, 1) := by decide +kernel
theorem dX3_manyBeside_5 : decode cX3_manyBeside 5 = .ok (.aload_n 0, 1) := by decide +kernel
theorem dX3_manyBeside_6 : decode cX3_manyBeside 6 = .ok (.getfield 33, 3) := by decide +kernel
theorem dX3_manyBeside_9 : decode cX3_manyBeside 9 = .ok (.if_icmp .ge 21, 3) := by decide +kernel
theorem dX3_manyBeside_12 : decode cX3_manyBeside 12 = .ok (.aload_n 0, 1) := by decide +kernel
theorem dX3_manyBeside_13 : decode cX3_manyBeside 13 = .ok (.iload_n 1, 1) := by decide +kernel
theorem dX3_manyBeside_14 : decode cX3_manyBeside 14 = .ok (.iload_n 3, 1) := by decide +kernel
theorem dX3_manyBeside_15 : decode cX3_manyBeside 15 = .ok (.invokevirtual 77, 3) := by decide +kernel
theorem dX3_manyBeside_18 : decode cX3_manyBeside 18 = .ok (.ifCond .eq 6, 3) := by decide +kernel
theorem dX3_manyBeside_21 : decode cX3_manyBeside 21 = .ok (.iinc 2 1, 3) := by decide +kernel
theorem dX3_manyBeside_24 : decode cX3_manyBeside 24 = .ok (.iinc 3 1, 3) := by decide +kernel
theorem dX3_manyBeside_27 : decode cX3_manyBeside 27 = .ok (.goto (-23), 3) := by decide +kernel
theorem dX3_manyBeside_30 : decode cX3_manyBeside 30 = .ok (.iload_n 2, 1) := by decide +kernel
theorem dX3_manyBeside_31 : decode cX3_manyBeside 31 = .ok (.ireturn, 1) := by decide +kernel
set_option maxRecDepth 20000 in
theorem ggX3_ownersBeside_X3_areBeside : GoodIn wsX3_ownersBeside wsX3_areBeside := goodIn_r _ [7, 8, 9, 10, 6, 11, 12, 13, 14, 15, 16, 17, 18, 19, 20, 21, 22, 23, 24, 25, 26, 27, 28, 29, 30, 31, 32, 33, 34, 35, 36, 37, 40, 41, 42, 43, 44, 45] (by decide +kernel) (by decide +kernel)
set_option maxRecDepth 20000 in
theorem gX3_ownersBeside_X3_areBeside : GoodIn wsX3_ownersBeside (wsV RX3 77 RX3 yX3_areBeside wsX3_areBeside) := goodIn_app (goodIn_of _ (by decide +kernel)) ggX3_ownersBeside_X3_areBeside
set_option maxRecDepth 20000 in
theorem ggX3_ownersBeside_X4_at : GoodIn wsX3_ownersBeside wsX4_at := goodIn_r _ [17, 18, 45] (by decide +kernel) (by decide +kernel)
set_option maxRecDepth 20000 in
theorem gX3_ownersBeside_X4_at : GoodIn wsX3_ownersBeside (wsV RX3 41 RX4 yX4_at wsX4_at) := goodIn_app (goodIn_of _ (by decide +kernel)) ggX3_ownersBeside_X4_at
set_option maxRecDepth 20000 in
theorem ggX3_ownersBeside_X5_markOf : GoodIn wsX3_ownersBeside wsX5_markOf := goodIn_r _ [39] (by decide +kernel) (by decide +kernel)
set_option maxRecDepth 20000 in
theorem gX3_ownersBeside_X5_markOf_n81 : GoodIn wsX3_ownersBeside (wsX5_markOf) := ggX3_ownersBeside_X5_markOf
theorem dX3_ownersBeside_0 : decode cX3_ownersBeside 0 = .ok (.iconst 0, 1) := by decide +kernel
theorem dX3_ownersBeside_1 : decode cX3_ownersBeside 1 = .ok (.istore_n 2, 1) := by decide +kernel
theorem dX3_ownersBeside_2 : decode cX3_ownersBeside 2 = .ok (.iconst 0, 1) := by decide +kernel
theorem dX3_ownersBeside_3 : decode cX3_ownersBeside 3 = .ok (.istore_n 3, 1) := by decide +kernel
theorem dX3_ownersBeside_4 : decode cX3_ownersBeside 4 = .ok (.iload_n 3, 1) := by decide +kernel
theorem dX3_ownersBeside_5 : decode cX3_ownersBeside 5 = .ok (.aload_n 0, 1) := by decide +kernel
theorem dX3_ownersBeside_6 : decode cX3_ownersBeside 6 = .ok (.getfield 33, 3) := by decide +kernel
theorem dX3_ownersBeside_9 : decode cX3_ownersBeside 9 = .ok (.if_icmp .ge 32, 3) := by decide +kernel
theorem dX3_ownersBeside_12 : decode cX3_ownersBeside 12 = .ok (.aload_n 0, 1) := by decide +kernel
theorem dX3_ownersBeside_13 : decode cX3_ownersBeside 13 = .ok (.iload_n 1, 1) := by decide +kernel
theorem dX3_ownersBeside_14 : decode cX3_ownersBeside 14 = .ok (.iload_n 3, 1) := by decide +kernel
theorem dX3_ownersBeside_15 : decode cX3_ownersBeside 15 = .ok (.invokevirtual 77, 3) := by decide +kernel
theorem dX3_ownersBeside_18 : decode cX3_ownersBeside 18 = .ok (.ifCond .eq 17, 3) := by decide +kernel
theorem dX3_ownersBeside_21 : decode cX3_ownersBeside 21 = .ok (.iload_n 2, 1) := by decide +kernel
theorem dX3_ownersBeside_22 : decode cX3_ownersBeside 22 = .ok (.aload_n 0, 1) := by decide +kernel
theorem dX3_ownersBeside_23 : decode cX3_ownersBeside 23 = .ok (.getfield 26, 3) := by decide +kernel
theorem dX3_ownersBeside_26 : decode cX3_ownersBeside 26 = .ok (.iload_n 3, 1) := by decide +kernel
theorem dX3_ownersBeside_27 : decode cX3_ownersBeside 27 = .ok (.invokevirtual 41, 3) := by decide +kernel
theorem dX3_ownersBeside_30 : decode cX3_ownersBeside 30 = .ok (.invokestatic 81, 3) := by decide +kernel
theorem dX3_ownersBeside_33 : decode cX3_ownersBeside 33 = .ok (.ior, 1) := by decide +kernel
theorem dX3_ownersBeside_34 : decode cX3_ownersBeside 34 = .ok (.istore_n 2, 1) := by decide +kernel
theorem dX3_ownersBeside_35 : decode cX3_ownersBeside 35 = .ok (.iinc 3 1, 3) := by decide +kernel
theorem dX3_ownersBeside_38 : decode cX3_ownersBeside 38 = .ok (.goto (-34), 3) := by decide +kernel
theorem dX3_ownersBeside_41 : decode cX3_ownersBeside 41 = .ok (.iload_n 2, 1) := by decide +kernel
theorem dX3_ownersBeside_42 : decode cX3_ownersBeside 42 = .ok (.ireturn, 1) := by decide +kernel
set_option maxRecDepth 20000 in
theorem ggX3_neighboursOf_X4_at : GoodIn wsX3_neighboursOf wsX4_at := goodIn_r _ [7, 8, 56] (by decide +kernel) (by decide +kernel)
set_option maxRecDepth 20000 in
theorem gX3_neighboursOf_X4_at : GoodIn wsX3_neighboursOf (wsV RX3 41 RX4 yX4_at wsX4_at) := goodIn_app (goodIn_of _ (by decide +kernel)) ggX3_neighboursOf_X4_at
set_option maxRecDepth 20000 in
theorem ggX3_neighboursOf_X3_ownersBeside : GoodIn wsX3_neighboursOf wsX3_ownersBeside := goodIn_r _ [13, 1, 2, 14, 15, 16, 12, 17, 18, 19, 20, 21, 22, 3, 4, 5, 6, 7, 8, 23, 24, 25, 26, 27, 28, 29, 30, 31, 32, 33, 34, 35, 36, 37, 38, 39, 40, 41, 42, 43, 51, 52, 53, 54, 55, 56] (by decide +kernel) (by decide +kernel)
set_option maxRecDepth 20000 in
theorem gX3_neighboursOf_X3_ownersBeside : GoodIn wsX3_neighboursOf (wsV RX3 84 RX3 yX3_ownersBeside wsX3_ownersBeside) := goodIn_app (goodIn_of _ (by decide +kernel)) ggX3_neighboursOf_X3_ownersBeside
set_option maxRecDepth 20000 in
theorem ggX3_neighboursOf_X5_markOf : GoodIn wsX3_neighboursOf wsX5_markOf := goodIn_r _ [43] (by decide +kernel) (by decide +kernel)
set_option maxRecDepth 20000 in
theorem gX3_neighboursOf_X5_markOf_n81 : GoodIn wsX3_neighboursOf (wsX5_markOf) := ggX3_neighboursOf_X5_markOf
set_option maxRecDepth 20000 in
theorem ggX3_neighboursOf_J6_bitCount_0f7a4 : GoodIn wsX3_neighboursOf wsJ6_bitCount_0f7a4 := goodIn_r _ [47, 48, 49, 50] (by decide +kernel) (by decide +kernel)
set_option maxRecDepth 20000 in
theorem gX3_neighboursOf_J6_bitCount_0f7a4 : GoodIn wsX3_neighboursOf (va_wsS RX3 87 yJ6_bitCount_0f7a4 wsJ6_bitCount_0f7a4) := goodIn_app (goodIn_of _ (by decide +kernel)) ggX3_neighboursOf_J6_bitCount_0f7a4
theorem dX3_neighboursOf_0 : decode cX3_neighboursOf 0 = .ok (.iconst 0, 1) := by decide +kernel
theorem dX3_neighboursOf_1 : decode cX3_neighboursOf 1 = .ok (.istore_n 2, 1) := by decide +kernel
theorem dX3_neighboursOf_2 : decode cX3_neighboursOf 2 = .ok (.iconst 0, 1) := by decide +kernel
theorem dX3_neighboursOf_3 : decode cX3_neighboursOf 3 = .ok (.istore_n 3, 1) := by decide +kernel
theorem dX3_neighboursOf_4 : decode cX3_neighboursOf 4 = .ok (.iload_n 3, 1) := by decide +kernel
theorem dX3_neighboursOf_5 : decode cX3_neighboursOf 5 = .ok (.aload_n 0, 1) := by decide +kernel
theorem dX3_neighboursOf_6 : decode cX3_neighboursOf 6 = .ok (.getfield 33, 3) := by decide +kernel
theorem dX3_neighboursOf_9 : decode cX3_neighboursOf 9 = .ok (.if_icmp .ge 29, 3) := by decide +kernel
theorem dX3_neighboursOf_12 : decode cX3_neighboursOf 12 = .ok (.aload_n 0, 1) := by decide +kernel
theorem dX3_neighboursOf_13 : decode cX3_neighboursOf 13 = .ok (.getfield 26, 3) := by decide +kernel
theorem dX3_neighboursOf_16 : decode cX3_neighboursOf 16 = .ok (.iload_n 3, 1) := by decide +kernel
theorem dX3_neighboursOf_17 : decode cX3_neighboursOf 17 = .ok (.invokevirtual 41, 3) := by decide +kernel
theorem dX3_neighboursOf_20 : decode cX3_neighboursOf 20 = .ok (.iload_n 1, 1) := by decide +kernel
theorem dX3_neighboursOf_21 : decode cX3_neighboursOf 21 = .ok (.if_icmp .ne 11, 3) := by decide +kernel
theorem dX3_neighboursOf_24 : decode cX3_neighboursOf 24 = .ok (.iload_n 2, 1) := by decide +kernel
theorem dX3_neighboursOf_25 : decode cX3_neighboursOf 25 = .ok (.aload_n 0, 1) := by decide +kernel
theorem dX3_neighboursOf_26 : decode cX3_neighboursOf 26 = .ok (.iload_n 3, 1) := by decide +kernel
theorem dX3_neighboursOf_27 : decode cX3_neighboursOf 27 = .ok (.invokevirtual 84, 3) := by decide +kernel
theorem dX3_neighboursOf_30 : decode cX3_neighboursOf 30 = .ok (.ior, 1) := by decide +kernel
theorem dX3_neighboursOf_31 : decode cX3_neighboursOf 31 = .ok (.istore_n 2, 1) := by decide +kernel
theorem dX3_neighboursOf_32 : decode cX3_neighboursOf 32 = .ok (.iinc 3 1, 3) := by decide +kernel
theorem dX3_neighboursOf_35 : decode cX3_neighboursOf 35 = .ok (.goto (-31), 3) := by decide +kernel
theorem dX3_neighboursOf_38 : decode cX3_neighboursOf 38 = .ok (.iload_n 2, 1) := by decide +kernel
theorem dX3_neighboursOf_39 : decode cX3_neighboursOf 39 = .ok (.iload_n 1, 1) := by decide +kernel
theorem dX3_neighboursOf_40 : decode cX3_neighboursOf 40 = .ok (.invokestatic 81, 3) := by decide +kernel
theorem dX3_neighboursOf_43 : decode cX3_neighboursOf 43 = .ok (.iconst (-1), 1) := by decide +kernel
theorem dX3_neighboursOf_44 : decode cX3_neighboursOf 44 = .ok (.ixor, 1) := by decide +kernel
theorem dX3_neighboursOf_45 : decode cX3_neighboursOf 45 = .ok (.iand, 1) := by decide +kernel
theorem dX3_neighboursOf_46 : decode cX3_neighboursOf 46 = .ok (.invokestatic 87, 3) := by decide +kernel
theorem dX3_neighboursOf_49 : decode cX3_neighboursOf 49 = .ok (.ireturn, 1) := by decide +kernel
set_option maxRecDepth 20000 in
theorem ggX3_manyOf_X4_at : GoodIn wsX3_manyOf wsX4_at := goodIn_r _ [7, 8, 14] (by decide +kernel) (by decide +kernel)
set_option maxRecDepth 20000 in
theorem gX3_manyOf_X4_at : GoodIn wsX3_manyOf (wsV RX3 41 RX4 yX4_at wsX4_at) := goodIn_app (goodIn_of _ (by decide +kernel)) ggX3_manyOf_X4_at
theorem dX3_manyOf_0 : decode cX3_manyOf 0 = .ok (.iconst 0, 1) := by decide +kernel
theorem dX3_manyOf_1 : decode cX3_manyOf 1 = .ok (.istore_n 2, 1) := by decide +kernel
theorem dX3_manyOf_2 : decode cX3_manyOf 2 = .ok (.iconst 0, 1) := by decide +kernel
theorem dX3_manyOf_3 : decode cX3_manyOf 3 = .ok (.istore_n 3, 1) := by decide +kernel
theorem dX3_manyOf_4 : decode cX3_manyOf 4 = .ok (.iload_n 3, 1) := by decide +kernel
theorem dX3_manyOf_5 : decode cX3_manyOf 5 = .ok (.aload_n 0, 1) := by decide +kernel
theorem dX3_manyOf_6 : decode cX3_manyOf 6 = .ok (.getfield 33, 3) := by decide +kernel
theorem dX3_manyOf_9 : decode cX3_manyOf 9 = .ok (.if_icmp .ge 24, 3) := by decide +kernel
theorem dX3_manyOf_12 : decode cX3_manyOf 12 = .ok (.aload_n 0, 1) := by decide +kernel
theorem dX3_manyOf_13 : decode cX3_manyOf 13 = .ok (.getfield 26, 3) := by decide +kernel
theorem dX3_manyOf_16 : decode cX3_manyOf 16 = .ok (.iload_n 3, 1) := by decide +kernel
theorem dX3_manyOf_17 : decode cX3_manyOf 17 = .ok (.invokevirtual 41, 3) := by decide +kernel
theorem dX3_manyOf_20 : decode cX3_manyOf 20 = .ok (.iload_n 1, 1) := by decide +kernel
theorem dX3_manyOf_21 : decode cX3_manyOf 21 = .ok (.if_icmp .ne 6, 3) := by decide +kernel
theorem dX3_manyOf_24 : decode cX3_manyOf 24 = .ok (.iinc 2 1, 3) := by decide +kernel
theorem dX3_manyOf_27 : decode cX3_manyOf 27 = .ok (.iinc 3 1, 3) := by decide +kernel
theorem dX3_manyOf_30 : decode cX3_manyOf 30 = .ok (.goto (-26), 3) := by decide +kernel
theorem dX3_manyOf_33 : decode cX3_manyOf 33 = .ok (.iload_n 2, 1) := by decide +kernel
theorem dX3_manyOf_34 : decode cX3_manyOf 34 = .ok (.ireturn, 1) := by decide +kernel
set_option maxRecDepth 20000 in
theorem ggX3_pointsOf_X4_at : GoodIn wsX3_pointsOf wsX4_at := goodIn_r _ [8, 9, 20] (by decide +kernel) (by decide +kernel)
set_option maxRecDepth 20000 in
theorem gX3_pointsOf_X4_at : GoodIn wsX3_pointsOf (wsV RX3 41 RX4 yX4_at wsX4_at) := goodIn_app (goodIn_of _ (by decide +kernel)) ggX3_pointsOf_X4_at
set_option maxRecDepth 20000 in
theorem ggX3_pointsOf_X5_widthAt : GoodIn wsX3_pointsOf wsX5_widthAt := goodIn_r _ [12] (by decide +kernel) (by decide +kernel)
set_option maxRecDepth 20000 in
theorem gX3_pointsOf_X5_widthAt_n45 : GoodIn wsX3_pointsOf (wsX5_widthAt) := ggX3_pointsOf_X5_widthAt
set_option maxRecDepth 20000 in
theorem ggX3_pointsOf_X5_heightAt : GoodIn wsX3_pointsOf wsX5_heightAt := goodIn_r _ [14] (by decide +kernel) (by decide +kernel)
set_option maxRecDepth 20000 in
theorem gX3_pointsOf_X5_heightAt_n48 : GoodIn wsX3_pointsOf (wsX5_heightAt) := ggX3_pointsOf_X5_heightAt
theorem dX3_pointsOf_0 : decode cX3_pointsOf 0 = .ok (.iconst 0, 1) := by decide +kernel
theorem dX3_pointsOf_1 : decode cX3_pointsOf 1 = .ok (.istore_n 2, 1) := by decide +kernel
theorem dX3_pointsOf_2 : decode cX3_pointsOf 2 = .ok (.iconst 0, 1) := by decide +kernel
theorem dX3_pointsOf_3 : decode cX3_pointsOf 3 = .ok (.istore_n 3, 1) := by decide +kernel
theorem dX3_pointsOf_4 : decode cX3_pointsOf 4 = .ok (.iload_n 3, 1) := by decide +kernel
theorem dX3_pointsOf_5 : decode cX3_pointsOf 5 = .ok (.aload_n 0, 1) := by decide +kernel
theorem dX3_pointsOf_6 : decode cX3_pointsOf 6 = .ok (.getfield 33, 3) := by decide +kernel
theorem dX3_pointsOf_9 : decode cX3_pointsOf 9 = .ok (.if_icmp .ge 47, 3) := by decide +kernel
theorem dX3_pointsOf_12 : decode cX3_pointsOf 12 = .ok (.aload_n 0, 1) := by decide +kernel
theorem dX3_pointsOf_13 : decode cX3_pointsOf 13 = .ok (.getfield 26, 3) := by decide +kernel
theorem dX3_pointsOf_16 : decode cX3_pointsOf 16 = .ok (.iload_n 3, 1) := by decide +kernel
theorem dX3_pointsOf_17 : decode cX3_pointsOf 17 = .ok (.invokevirtual 41, 3) := by decide +kernel
theorem dX3_pointsOf_20 : decode cX3_pointsOf 20 = .ok (.iload_n 1, 1) := by decide +kernel
theorem dX3_pointsOf_21 : decode cX3_pointsOf 21 = .ok (.if_icmp .ne 29, 3) := by decide +kernel
theorem dX3_pointsOf_24 : decode cX3_pointsOf 24 = .ok (.iload_n 2, 1) := by decide +kernel
theorem dX3_pointsOf_25 : decode cX3_pointsOf 25 = .ok (.aload_n 0, 1) := by decide +kernel
theorem dX3_pointsOf_26 : decode cX3_pointsOf 26 = .ok (.getfield 23, 3) := by decide +kernel
theorem dX3_pointsOf_29 : decode cX3_pointsOf 29 = .ok (.iload_n 3, 1) := by decide +kernel
theorem dX3_pointsOf_30 : decode cX3_pointsOf 30 = .ok (.invokevirtual 41, 3) := by decide +kernel
theorem dX3_pointsOf_33 : decode cX3_pointsOf 33 = .ok (.invokestatic 45, 3) := by decide +kernel
theorem dX3_pointsOf_36 : decode cX3_pointsOf 36 = .ok (.aload_n 0, 1) := by decide +kernel
theorem dX3_pointsOf_37 : decode cX3_pointsOf 37 = .ok (.getfield 23, 3) := by decide +kernel
theorem dX3_pointsOf_40 : decode cX3_pointsOf 40 = .ok (.iload_n 3, 1) := by decide +kernel
theorem dX3_pointsOf_41 : decode cX3_pointsOf 41 = .ok (.invokevirtual 41, 3) := by decide +kernel
theorem dX3_pointsOf_44 : decode cX3_pointsOf 44 = .ok (.invokestatic 48, 3) := by decide +kernel
theorem dX3_pointsOf_47 : decode cX3_pointsOf 47 = .ok (.imul, 1) := by decide +kernel
theorem dX3_pointsOf_48 : decode cX3_pointsOf 48 = .ok (.iadd, 1) := by decide +kernel
theorem dX3_pointsOf_49 : decode cX3_pointsOf 49 = .ok (.istore_n 2, 1) := by decide +kernel
theorem dX3_pointsOf_50 : decode cX3_pointsOf 50 = .ok (.iinc 3 1, 3) := by decide +kernel
theorem dX3_pointsOf_53 : decode cX3_pointsOf 53 = .ok (.goto (-49), 3) := by decide +kernel
theorem dX3_pointsOf_56 : decode cX3_pointsOf 56 = .ok (.iload_n 2, 1) := by decide +kernel
theorem dX3_pointsOf_57 : decode cX3_pointsOf 57 = .ok (.ireturn, 1) := by decide +kernel
set_option maxRecDepth 20000 in
theorem ggX3_isCornerLower_X4_at : GoodIn wsX3_isCornerLower wsX4_at := goodIn_r _ [7, 8, 14] (by decide +kernel) (by decide +kernel)
set_option maxRecDepth 20000 in
theorem gX3_isCornerLower_X4_at : GoodIn wsX3_isCornerLower (wsV RX3 41 RX4 yX4_at wsX4_at) := goodIn_app (goodIn_of _ (by decide +kernel)) ggX3_isCornerLower_X4_at
theorem dX3_isCornerLower_0 : decode cX3_isCornerLower 0 = .ok (.aload_n 0, 1) := by decide +kernel
theorem dX3_isCornerLower_1 : decode cX3_isCornerLower 1 = .ok (.getfield 14, 3) := by decide +kernel
theorem dX3_isCornerLower_4 : decode cX3_isCornerLower 4 = .ok (.iload_n 1, 1) := by decide +kernel
theorem dX3_isCornerLower_5 : decode cX3_isCornerLower 5 = .ok (.invokevirtual 41, 3) := by decide +kernel
theorem dX3_isCornerLower_8 : decode cX3_isCornerLower 8 = .ok (.aload_n 0, 1) := by decide +kernel
theorem dX3_isCornerLower_9 : decode cX3_isCornerLower 9 = .ok (.getfield 14, 3) := by decide +kernel
theorem dX3_isCornerLower_12 : decode cX3_isCornerLower 12 = .ok (.iload_n 2, 1) := by decide +kernel
theorem dX3_isCornerLower_13 : decode cX3_isCornerLower 13 = .ok (.invokevirtual 41, 3) := by decide +kernel
theorem dX3_isCornerLower_16 : decode cX3_isCornerLower 16 = .ok (.if_icmp .eq 28, 3) := by decide +kernel
theorem dX3_isCornerLower_19 : decode cX3_isCornerLower 19 = .ok (.aload_n 0, 1) := by decide +kernel
theorem dX3_isCornerLower_20 : decode cX3_isCornerLower 20 = .ok (.getfield 14, 3) := by decide +kernel
theorem dX3_isCornerLower_23 : decode cX3_isCornerLower 23 = .ok (.iload_n 1, 1) := by decide +kernel
theorem dX3_isCornerLower_24 : decode cX3_isCornerLower 24 = .ok (.invokevirtual 41, 3) := by decide +kernel
theorem dX3_isCornerLower_27 : decode cX3_isCornerLower 27 = .ok (.aload_n 0, 1) := by decide +kernel
theorem dX3_isCornerLower_28 : decode cX3_isCornerLower 28 = .ok (.getfield 14, 3) := by decide +kernel
theorem dX3_isCornerLower_31 : decode cX3_isCornerLower 31 = .ok (.iload_n 2, 1) := by decide +kernel
theorem dX3_isCornerLower_32 : decode cX3_isCornerLower 32 = .ok (.invokevirtual 41, 3) := by decide +kernel
theorem dX3_isCornerLower_35 : decode cX3_isCornerLower 35 = .ok (.if_icmp .ge 7, 3) := by decide +kernel
theorem dX3_isCornerLower_38 : decode cX3_isCornerLower 38 = .ok (.iconst 1, 1) := by decide +kernel
theorem dX3_isCornerLower_39 : decode cX3_isCornerLower 39 = .ok (.goto 4, 3) := by decide +kernel
theorem dX3_isCornerLower_42 : decode cX3_isCornerLower 42 = .ok (.iconst 0, 1) := by decide +kernel
theorem dX3_isCornerLower_43 : decode cX3_isCornerLower 43 = .ok (.ireturn, 1) := by decide +kernel
theorem dX3_isCornerLower_44 : decode cX3_isCornerLower 44 = .ok (.aload_n 0, 1) := by decide +kernel
theorem dX3_isCornerLower_45 : decode cX3_isCornerLower 45 = .ok (.getfield 20, 3) := by decide +kernel
theorem dX3_isCornerLower_48 : decode cX3_isCornerLower 48 = .ok (.iload_n 1, 1) := by decide +kernel
theorem dX3_isCornerLower_49 : decode cX3_isCornerLower 49 = .ok (.invokevirtual 41, 3) := by decide +kernel
theorem dX3_isCornerLower_52 : decode cX3_isCornerLower 52 = .ok (.aload_n 0, 1) := by decide +kernel
theorem dX3_isCornerLower_53 : decode cX3_isCornerLower 53 = .ok (.getfield 20, 3) := by decide +kernel
theorem dX3_isCornerLower_56 : decode cX3_isCornerLower 56 = .ok (.iload_n 2, 1) := by decide +kernel
theorem dX3_isCornerLower_57 : decode cX3_isCornerLower 57 = .ok (.invokevirtual 41, 3) := by decide +kernel
theorem dX3_isCornerLower_60 : decode cX3_isCornerLower 60 = .ok (.if_icmp .ge 7, 3) := by decide +kernel
theorem dX3_isCornerLower_63 : decode cX3_isCornerLower 63 = .ok (.iconst 1, 1) := by decide +kernel
theorem dX3_isCornerLower_64 : decode cX3_isCornerLower 64 = .ok (.goto 4, 3) := by decide +kernel
theorem dX3_isCornerLower_67 : decode cX3_isCornerLower 67 = .ok (.iconst 0, 1) := by decide +kernel
theorem dX3_isCornerLower_68 : decode cX3_isCornerLower 68 = .ok (.ireturn, 1) := by decide +kernel
set_option maxRecDepth 20000 in
theorem ggX3_ranked_X4_at : GoodIn wsX3_ranked wsX4_at := goodIn_r _ [7, 8, 25] (by decide +kernel) (by decide +kernel)
set_option maxRecDepth 20000 in
theorem gX3_ranked_X4_at : GoodIn wsX3_ranked (wsV RX3 41 RX4 yX4_at wsX4_at) := goodIn_app (goodIn_of _ (by decide +kernel)) ggX3_ranked_X4_at
set_option maxRecDepth 20000 in
theorem ggX3_ranked_X3_rankOf : GoodIn wsX3_ranked wsX3_rankOf := goodIn_r _ [13, 1, 2, 3, 4, 5, 6, 7, 8, 14, 15, 16, 12, 17, 18, 19, 20, 21, 22, 23, 24, 25] (by decide +kernel) (by decide +kernel)
set_option maxRecDepth 20000 in
theorem gX3_ranked_X3_rankOf : GoodIn wsX3_ranked (wsV RX3 92 RX3 yX3_rankOf wsX3_rankOf) := goodIn_app (goodIn_of _ (by decide +kernel)) ggX3_ranked_X3_rankOf
theorem dX3_ranked_0 : decode cX3_ranked 0 = .ok (.iconst 0, 1) := by decide +kernel
theorem dX3_ranked_1 : decode cX3_ranked 1 = .ok (.istore_n 3, 1) := by decide +kernel
theorem dX3_ranked_2 : decode cX3_ranked 2 = .ok (.iload_n 3, 1) := by decide +kernel
theorem dX3_ranked_3 : decode cX3_ranked 3 = .ok (.aload_n 0, 1) := by decide +kernel
theorem dX3_ranked_4 : decode cX3_ranked 4 = .ok (.getfield 33, 3) := by decide +kernel
theorem dX3_ranked_7 : decode cX3_ranked 7 = .ok (.if_icmp .ge 32, 3) := by decide +kernel
theorem dX3_ranked_10 : decode cX3_ranked 10 = .ok (.aload_n 0, 1) := by decide +kernel
theorem dX3_ranked_11 : decode cX3_ranked 11 = .ok (.getfield 26, 3) := by decide +kernel
theorem dX3_ranked_14 : decode cX3_ranked 14 = .ok (.iload_n 3, 1) := by decide +kernel
theorem dX3_ranked_15 : decode cX3_ranked 15 = .ok (.invokevirtual 41, 3) := by decide +kernel
theorem dX3_ranked_18 : decode cX3_ranked 18 = .ok (.iload_n 1, 1) := by decide +kernel
theorem dX3_ranked_19 : decode cX3_ranked 19 = .ok (.if_icmp .ne 14, 3) := by decide +kernel
theorem dX3_ranked_22 : decode cX3_ranked 22 = .ok (.aload_n 0, 1) := by decide +kernel
theorem dX3_ranked_23 : decode cX3_ranked 23 = .ok (.iload_n 3, 1) := by decide +kernel
theorem dX3_ranked_24 : decode cX3_ranked 24 = .ok (.invokevirtual 92, 3) := by decide +kernel
theorem dX3_ranked_27 : decode cX3_ranked 27 = .ok (.iload_n 2, 1) := by decide +kernel
theorem dX3_ranked_28 : decode cX3_ranked 28 = .ok (.if_icmp .ne 5, 3) := by decide +kernel
theorem dX3_ranked_31 : decode cX3_ranked 31 = .ok (.iload_n 3, 1) := by decide +kernel
theorem dX3_ranked_32 : decode cX3_ranked 32 = .ok (.ireturn, 1) := by decide +kernel
theorem dX3_ranked_33 : decode cX3_ranked 33 = .ok (.iinc 3 1, 3) := by decide +kernel
theorem dX3_ranked_36 : decode cX3_ranked 36 = .ok (.goto (-34), 3) := by decide +kernel
theorem dX3_ranked_39 : decode cX3_ranked 39 = .ok (.iconst (-1), 1) := by decide +kernel
theorem dX3_ranked_40 : decode cX3_ranked 40 = .ok (.ireturn, 1) := by decide +kernel
set_option maxRecDepth 20000 in
theorem ggX3_rankOf_X4_at : GoodIn wsX3_rankOf wsX4_at := goodIn_r _ [7, 8, 21] (by decide +kernel) (by decide +kernel)
set_option maxRecDepth 20000 in
theorem gX3_rankOf_X4_at : GoodIn wsX3_rankOf (wsV RX3 41 RX4 yX4_at wsX4_at) := goodIn_app (goodIn_of _ (by decide +kernel)) ggX3_rankOf_X4_at
set_option maxRecDepth 20000 in
theorem ggX3_rankOf_X3_isCornerLower : GoodIn wsX3_rankOf wsX3_isCornerLower := goodIn_r _ [13, 14, 15, 3, 4, 5, 6, 7, 8, 16, 17, 18, 19, 20, 21] (by decide +kernel) (by decide +kernel)
set_option maxRecDepth 20000 in
theorem gX3_rankOf_X3_isCornerLower : GoodIn wsX3_rankOf (wsV RX3 95 RX3 yX3_isCornerLower wsX3_isCornerLower) := goodIn_app (goodIn_of _ (by decide +kernel)) ggX3_rankOf_X3_isCornerLower
theorem dX3_rankOf_0 : decode cX3_rankOf 0 = .ok (.iconst 0, 1) := by decide +kernel
theorem dX3_rankOf_1 : decode cX3_rankOf 1 = .ok (.istore_n 2, 1) := by decide +kernel
theorem dX3_rankOf_2 : decode cX3_rankOf 2 = .ok (.iconst 0, 1) := by decide +kernel
theorem dX3_rankOf_3 : decode cX3_rankOf 3 = .ok (.istore_n 3, 1) := by decide +kernel
theorem dX3_rankOf_4 : decode cX3_rankOf 4 = .ok (.iload_n 3, 1) := by decide +kernel
theorem dX3_rankOf_5 : decode cX3_rankOf 5 = .ok (.aload_n 0, 1) := by decide +kernel
theorem dX3_rankOf_6 : decode cX3_rankOf 6 = .ok (.getfield 33, 3) := by decide +kernel
theorem dX3_rankOf_9 : decode cX3_rankOf 9 = .ok (.if_icmp .ge 40, 3) := by decide +kernel
theorem dX3_rankOf_12 : decode cX3_rankOf 12 = .ok (.aload_n 0, 1) := by decide +kernel
theorem dX3_rankOf_13 : decode cX3_rankOf 13 = .ok (.getfield 26, 3) := by decide +kernel
theorem dX3_rankOf_16 : decode cX3_rankOf 16 = .ok (.iload_n 3, 1) := by decide +kernel
theorem dX3_rankOf_17 : decode cX3_rankOf 17 = .ok (.invokevirtual 41, 3) := by decide +kernel
theorem dX3_rankOf_20 : decode cX3_rankOf 20 = .ok (.aload_n 0, 1) := by decide +kernel
theorem dX3_rankOf_21 : decode cX3_rankOf 21 = .ok (.getfield 26, 3) := by decide +kernel
theorem dX3_rankOf_24 : decode cX3_rankOf 24 = .ok (.iload_n 1, 1) := by decide +kernel
theorem dX3_rankOf_25 : decode cX3_rankOf 25 = .ok (.invokevirtual 41, 3) := by decide +kernel
theorem dX3_rankOf_28 : decode cX3_rankOf 28 = .ok (.if_icmp .ne 15, 3) := by decide +kernel
theorem dX3_rankOf_31 : decode cX3_rankOf 31 = .ok (.aload_n 0, 1) := by decide +kernel
theorem dX3_rankOf_32 : decode cX3_rankOf 32 = .ok (.iload_n 3, 1) := by decide +kernel
theorem dX3_rankOf_33 : decode cX3_rankOf 33 = .ok (.iload_n 1, 1) := by decide +kernel
theorem dX3_rankOf_34 : decode cX3_rankOf 34 = .ok (.invokevirtual 95, 3) := by decide +kernel
theorem dX3_rankOf_37 : decode cX3_rankOf 37 = .ok (.ifCond .eq 6, 3) := by decide +kernel
theorem dX3_rankOf_40 : decode cX3_rankOf 40 = .ok (.iinc 2 1, 3) := by decide +kernel
theorem dX3_rankOf_43 : decode cX3_rankOf 43 = .ok (.iinc 3 1, 3) := by decide +kernel
theorem dX3_rankOf_46 : decode cX3_rankOf 46 = .ok (.goto (-42), 3) := by decide +kernel
theorem dX3_rankOf_49 : decode cX3_rankOf 49 = .ok (.iload_n 2, 1) := by decide +kernel
theorem dX3_rankOf_50 : decode cX3_rankOf 50 = .ok (.ireturn, 1) := by decide +kernel
set_option maxRecDepth 20000 in
theorem ggX3_firstToGive_X4_at : GoodIn wsX3_firstToGive wsX4_at := goodIn_r _ [7, 8, 26] (by decide +kernel) (by decide +kernel)
set_option maxRecDepth 20000 in
theorem gX3_firstToGive_X4_at : GoodIn wsX3_firstToGive (wsV RX3 41 RX4 yX4_at wsX4_at) := goodIn_app (goodIn_of _ (by decide +kernel)) ggX3_firstToGive_X4_at
set_option maxRecDepth 20000 in
theorem ggX3_firstToGive_X3_isGivenBefore : GoodIn wsX3_firstToGive wsX3_isGivenBefore := goodIn_r _ [13, 14, 3, 4, 5, 6, 7, 8, 15, 16, 17, 12, 18, 19, 20, 21, 22, 23, 24, 25, 26] (by decide +kernel) (by decide +kernel)
set_option maxRecDepth 20000 in
theorem gX3_firstToGive_X3_isGivenBefore : GoodIn wsX3_firstToGive (wsV RX3 98 RX3 yX3_isGivenBefore wsX3_isGivenBefore) := goodIn_app (goodIn_of _ (by decide +kernel)) ggX3_firstToGive_X3_isGivenBefore
theorem dX3_firstToGive_0 : decode cX3_firstToGive 0 = .ok (.iconst (-1), 1) := by decide +kernel
theorem dX3_firstToGive_1 : decode cX3_firstToGive 1 = .ok (.istore_n 2, 1) := by decide +kernel
theorem dX3_firstToGive_2 : decode cX3_firstToGive 2 = .ok (.iconst 0, 1) := by decide +kernel
theorem dX3_firstToGive_3 : decode cX3_firstToGive 3 = .ok (.istore_n 3, 1) := by decide +kernel
theorem dX3_firstToGive_4 : decode cX3_firstToGive 4 = .ok (.iload_n 3, 1) := by decide +kernel
theorem dX3_firstToGive_5 : decode cX3_firstToGive 5 = .ok (.aload_n 0, 1) := by decide +kernel
theorem dX3_firstToGive_6 : decode cX3_firstToGive 6 = .ok (.getfield 33, 3) := by decide +kernel
theorem dX3_firstToGive_9 : decode cX3_firstToGive 9 = .ok (.if_icmp .ge 37, 3) := by decide +kernel
theorem dX3_firstToGive_12 : decode cX3_firstToGive 12 = .ok (.aload_n 0, 1) := by decide +kernel
theorem dX3_firstToGive_13 : decode cX3_firstToGive 13 = .ok (.getfield 26, 3) := by decide +kernel
theorem dX3_firstToGive_16 : decode cX3_firstToGive 16 = .ok (.iload_n 3, 1) := by decide +kernel
theorem dX3_firstToGive_17 : decode cX3_firstToGive 17 = .ok (.invokevirtual 41, 3) := by decide +kernel
theorem dX3_firstToGive_20 : decode cX3_firstToGive 20 = .ok (.iload_n 1, 1) := by decide +kernel
theorem dX3_firstToGive_21 : decode cX3_firstToGive 21 = .ok (.if_icmp .ne 19, 3) := by decide +kernel
theorem dX3_firstToGive_24 : decode cX3_firstToGive 24 = .ok (.iload_n 2, 1) := by decide +kernel
theorem dX3_firstToGive_25 : decode cX3_firstToGive 25 = .ok (.iconst (-1), 1) := by decide +kernel
theorem dX3_firstToGive_26 : decode cX3_firstToGive 26 = .ok (.if_icmp .eq 12, 3) := by decide +kernel
theorem dX3_firstToGive_29 : decode cX3_firstToGive 29 = .ok (.aload_n 0, 1) := by decide +kernel
theorem dX3_firstToGive_30 : decode cX3_firstToGive 30 = .ok (.iload_n 3, 1) := by decide +kernel
theorem dX3_firstToGive_31 : decode cX3_firstToGive 31 = .ok (.iload_n 2, 1) := by decide +kernel
theorem dX3_firstToGive_32 : decode cX3_firstToGive 32 = .ok (.invokevirtual 98, 3) := by decide +kernel
theorem dX3_firstToGive_35 : decode cX3_firstToGive 35 = .ok (.ifCond .eq 5, 3) := by decide +kernel
theorem dX3_firstToGive_38 : decode cX3_firstToGive 38 = .ok (.iload_n 3, 1) := by decide +kernel
theorem dX3_firstToGive_39 : decode cX3_firstToGive 39 = .ok (.istore_n 2, 1) := by decide +kernel
theorem dX3_firstToGive_40 : decode cX3_firstToGive 40 = .ok (.iinc 3 1, 3) := by decide +kernel
theorem dX3_firstToGive_43 : decode cX3_firstToGive 43 = .ok (.goto (-39), 3) := by decide +kernel
theorem dX3_firstToGive_46 : decode cX3_firstToGive 46 = .ok (.iload_n 2, 1) := by decide +kernel
theorem dX3_firstToGive_47 : decode cX3_firstToGive 47 = .ok (.ireturn, 1) := by decide +kernel
set_option maxRecDepth 20000 in
theorem ggX3_isGivenBefore_X4_at : GoodIn wsX3_isGivenBefore wsX4_at := goodIn_r _ [6, 7, 20] (by decide +kernel) (by decide +kernel)
set_option maxRecDepth 20000 in
theorem gX3_isGivenBefore_X4_at : GoodIn wsX3_isGivenBefore (wsV RX3 41 RX4 yX4_at wsX4_at) := goodIn_app (goodIn_of _ (by decide +kernel)) ggX3_isGivenBefore_X4_at
set_option maxRecDepth 20000 in
theorem ggX3_isGivenBefore_X3_isCornerLower : GoodIn wsX3_isGivenBefore wsX3_isCornerLower := goodIn_r _ [12, 13, 14, 2, 3, 4, 5, 6, 7, 15, 16, 17, 18, 19, 20] (by decide +kernel) (by decide +kernel)
set_option maxRecDepth 20000 in
theorem gX3_isGivenBefore_X3_isCornerLower : GoodIn wsX3_isGivenBefore (wsV RX3 95 RX3 yX3_isCornerLower wsX3_isCornerLower) := goodIn_app (goodIn_of _ (by decide +kernel)) ggX3_isGivenBefore_X3_isCornerLower
theorem dX3_isGivenBefore_0 : decode cX3_isGivenBefore 0 = .ok (.aload_n 0, 1) := by decide +kernel
theorem dX3_isGivenBefore_1 : decode cX3_isGivenBefore 1 = .ok (.getfield 23, 3) := by decide +kernel
theorem dX3_isGivenBefore_4 : decode cX3_isGivenBefore 4 = .ok (.iload_n 1, 1) := by decide +kernel
theorem dX3_isGivenBefore_5 : decode cX3_isGivenBefore 5 = .ok (.invokevirtual 41, 3) := by decide +kernel
theorem dX3_isGivenBefore_8 : decode cX3_isGivenBefore 8 = .ok (.aload_n 0, 1) := by decide +kernel
theorem dX3_isGivenBefore_9 : decode cX3_isGivenBefore 9 = .ok (.getfield 23, 3) := by decide +kernel
theorem dX3_isGivenBefore_12 : decode cX3_isGivenBefore 12 = .ok (.iload_n 2, 1) := by decide +kernel
theorem dX3_isGivenBefore_13 : decode cX3_isGivenBefore 13 = .ok (.invokevirtual 41, 3) := by decide +kernel
theorem dX3_isGivenBefore_16 : decode cX3_isGivenBefore 16 = .ok (.if_icmp .eq 28, 3) := by decide +kernel
theorem dX3_isGivenBefore_19 : decode cX3_isGivenBefore 19 = .ok (.aload_n 0, 1) := by decide +kernel
theorem dX3_isGivenBefore_20 : decode cX3_isGivenBefore 20 = .ok (.getfield 23, 3) := by decide +kernel
theorem dX3_isGivenBefore_23 : decode cX3_isGivenBefore 23 = .ok (.iload_n 1, 1) := by decide +kernel
theorem dX3_isGivenBefore_24 : decode cX3_isGivenBefore 24 = .ok (.invokevirtual 41, 3) := by decide +kernel
theorem dX3_isGivenBefore_27 : decode cX3_isGivenBefore 27 = .ok (.aload_n 0, 1) := by decide +kernel
theorem dX3_isGivenBefore_28 : decode cX3_isGivenBefore 28 = .ok (.getfield 23, 3) := by decide +kernel
theorem dX3_isGivenBefore_31 : decode cX3_isGivenBefore 31 = .ok (.iload_n 2, 1) := by decide +kernel
theorem dX3_isGivenBefore_32 : decode cX3_isGivenBefore 32 = .ok (.invokevirtual 41, 3) := by decide +kernel
theorem dX3_isGivenBefore_35 : decode cX3_isGivenBefore 35 = .ok (.if_icmp .le 7, 3) := by decide +kernel
theorem dX3_isGivenBefore_38 : decode cX3_isGivenBefore 38 = .ok (.iconst 1, 1) := by decide +kernel
theorem dX3_isGivenBefore_39 : decode cX3_isGivenBefore 39 = .ok (.goto 4, 3) := by decide +kernel
theorem dX3_isGivenBefore_42 : decode cX3_isGivenBefore 42 = .ok (.iconst 0, 1) := by decide +kernel
theorem dX3_isGivenBefore_43 : decode cX3_isGivenBefore 43 = .ok (.ireturn, 1) := by decide +kernel
theorem dX3_isGivenBefore_44 : decode cX3_isGivenBefore 44 = .ok (.aload_n 0, 1) := by decide +kernel
theorem dX3_isGivenBefore_45 : decode cX3_isGivenBefore 45 = .ok (.iload_n 1, 1) := by decide +kernel
theorem dX3_isGivenBefore_46 : decode cX3_isGivenBefore 46 = .ok (.iload_n 2, 1) := by decide +kernel
theorem dX3_isGivenBefore_47 : decode cX3_isGivenBefore 47 = .ok (.invokevirtual 95, 3) := by decide +kernel
theorem dX3_isGivenBefore_50 : decode cX3_isGivenBefore 50 = .ok (.ireturn, 1) := by decide +kernel
set_option maxRecDepth 20000 in
theorem ggX3_distance_X3_x0Of : GoodIn wsX3_distance wsX3_x0Of := goodIn_r _ [5, 6, 7, 8, 9, 10, 11, 12, 35, 36, 37, 38, 39, 40] (by decide +kernel) (by decide +kernel)
set_option maxRecDepth 20000 in
theorem gX3_distance_X3_x0Of : GoodIn wsX3_distance (wsV RX3 65 RX3 yX3_x0Of wsX3_x0Of) := goodIn_app (goodIn_of _ (by decide +kernel)) ggX3_distance_X3_x0Of
set_option maxRecDepth 20000 in
theorem ggX3_distance_X3_x1Of : GoodIn wsX3_distance wsX3_x1Of := goodIn_r _ [16, 6, 17, 7, 8, 9, 10, 11, 12, 18, 19, 20, 35, 36, 37, 38, 39, 40] (by decide +kernel) (by decide +kernel)
set_option maxRecDepth 20000 in
theorem gX3_distance_X3_x1Of : GoodIn wsX3_distance (wsV RX3 68 RX3 yX3_x1Of wsX3_x1Of) := goodIn_app (goodIn_of _ (by decide +kernel)) ggX3_distance_X3_x1Of
set_option maxRecDepth 20000 in
theorem ggX3_distance_X3_outside : GoodIn wsX3_distance wsX3_outside := goodIn_r _ [23] (by decide +kernel) (by decide +kernel)
set_option maxRecDepth 20000 in
theorem gX3_distance_X3_outside : GoodIn wsX3_distance (va_wsS RX3 101 yX3_outside wsX3_outside) := goodIn_app (goodIn_of _ (by decide +kernel)) ggX3_distance_X3_outside
set_option maxRecDepth 20000 in
theorem ggX3_distance_X3_y0Of : GoodIn wsX3_distance wsX3_y0Of := goodIn_r _ [27, 28, 7, 8, 9, 10, 11, 12, 35, 36, 37, 38, 39, 40] (by decide +kernel) (by decide +kernel)
set_option maxRecDepth 20000 in
theorem gX3_distance_X3_y0Of : GoodIn wsX3_distance (wsV RX3 71 RX3 yX3_y0Of wsX3_y0Of) := goodIn_app (goodIn_of _ (by decide +kernel)) ggX3_distance_X3_y0Of
set_option maxRecDepth 20000 in
theorem ggX3_distance_X3_y1Of : GoodIn wsX3_distance wsX3_y1Of := goodIn_r _ [32, 28, 17, 7, 8, 9, 10, 11, 12, 33, 19, 34, 35, 36, 37, 38, 39, 40] (by decide +kernel) (by decide +kernel)
set_option maxRecDepth 20000 in
theorem gX3_distance_X3_y1Of : GoodIn wsX3_distance (wsV RX3 74 RX3 yX3_y1Of wsX3_y1Of) := goodIn_app (goodIn_of _ (by decide +kernel)) ggX3_distance_X3_y1Of
theorem dX3_distance_0 : decode cX3_distance 0 = .ok (.iload_n 2, 1) := by decide +kernel
theorem dX3_distance_1 : decode cX3_distance 1 = .ok (.aload_n 0, 1) := by decide +kernel
theorem dX3_distance_2 : decode cX3_distance 2 = .ok (.iload_n 1, 1) := by decide +kernel
theorem dX3_distance_3 : decode cX3_distance 3 = .ok (.invokevirtual 65, 3) := by decide +kernel
theorem dX3_distance_6 : decode cX3_distance 6 = .ok (.aload_n 0, 1) := by decide +kernel
theorem dX3_distance_7 : decode cX3_distance 7 = .ok (.iload_n 1, 1) := by decide +kernel
theorem dX3_distance_8 : decode cX3_distance 8 = .ok (.invokevirtual 68, 3) := by decide +kernel
theorem dX3_distance_11 : decode cX3_distance 11 = .ok (.invokestatic 101, 3) := by decide +kernel
theorem dX3_distance_14 : decode cX3_distance 14 = .ok (.iload_n 3, 1) := by decide +kernel
theorem dX3_distance_15 : decode cX3_distance 15 = .ok (.aload_n 0, 1) := by decide +kernel
theorem dX3_distance_16 : decode cX3_distance 16 = .ok (.iload_n 1, 1) := by decide +kernel
theorem dX3_distance_17 : decode cX3_distance 17 = .ok (.invokevirtual 71, 3) := by decide +kernel
theorem dX3_distance_20 : decode cX3_distance 20 = .ok (.aload_n 0, 1) := by decide +kernel
theorem dX3_distance_21 : decode cX3_distance 21 = .ok (.iload_n 1, 1) := by decide +kernel
theorem dX3_distance_22 : decode cX3_distance 22 = .ok (.invokevirtual 74, 3) := by decide +kernel
theorem dX3_distance_25 : decode cX3_distance 25 = .ok (.invokestatic 101, 3) := by decide +kernel
theorem dX3_distance_28 : decode cX3_distance 28 = .ok (.iadd, 1) := by decide +kernel
theorem dX3_distance_29 : decode cX3_distance 29 = .ok (.ireturn, 1) := by decide +kernel
theorem dX3_outside_0 : decode cX3_outside 0 = .ok (.iload_n 0, 1) := by decide +kernel
theorem dX3_outside_1 : decode cX3_outside 1 = .ok (.iload_n 1, 1) := by decide +kernel
theorem dX3_outside_2 : decode cX3_outside 2 = .ok (.if_icmp .ge 7, 3) := by decide +kernel
theorem dX3_outside_5 : decode cX3_outside 5 = .ok (.iload_n 1, 1) := by decide +kernel
theorem dX3_outside_6 : decode cX3_outside 6 = .ok (.iload_n 0, 1) := by decide +kernel
theorem dX3_outside_7 : decode cX3_outside 7 = .ok (.isub, 1) := by decide +kernel
theorem dX3_outside_8 : decode cX3_outside 8 = .ok (.ireturn, 1) := by decide +kernel
theorem dX3_outside_9 : decode cX3_outside 9 = .ok (.iload_n 0, 1) := by decide +kernel
theorem dX3_outside_10 : decode cX3_outside 10 = .ok (.iload_n 2, 1) := by decide +kernel
theorem dX3_outside_11 : decode cX3_outside 11 = .ok (.if_icmp .le 9, 3) := by decide +kernel
theorem dX3_outside_14 : decode cX3_outside 14 = .ok (.iload_n 0, 1) := by decide +kernel
theorem dX3_outside_15 : decode cX3_outside 15 = .ok (.iload_n 2, 1) := by decide +kernel
theorem dX3_outside_16 : decode cX3_outside 16 = .ok (.isub, 1) := by decide +kernel
theorem dX3_outside_17 : decode cX3_outside 17 = .ok (.goto 4, 3) := by decide +kernel
theorem dX3_outside_20 : decode cX3_outside 20 = .ok (.iconst 0, 1) := by decide +kernel
theorem dX3_outside_21 : decode cX3_outside 21 = .ok (.ireturn, 1) := by decide +kernel
set_option maxRecDepth 20000 in
theorem ggX3_nextToward_X3_areBeside : GoodIn wsX3_nextToward wsX3_areBeside := goodIn_r _ [6, 7, 8, 9, 5, 10, 11, 12, 13, 14, 15, 16, 17, 18, 19, 20, 21, 22, 23, 24, 25, 26, 27, 28, 29, 30, 31, 32, 33, 34, 35, 36, 52, 53, 54, 55, 56, 57] (by decide +kernel) (by decide +kernel)
set_option maxRecDepth 20000 in
theorem gX3_nextToward_X3_areBeside : GoodIn wsX3_nextToward (wsV RX3 77 RX3 yX3_areBeside wsX3_areBeside) := goodIn_app (goodIn_of _ (by decide +kernel)) ggX3_nextToward_X3_areBeside
set_option maxRecDepth 20000 in
theorem ggX3_nextToward_X3_isBetterStep : GoodIn wsX3_nextToward wsX3_isBetterStep := goodIn_r _ [40, 41, 42, 43, 5, 44, 7, 8, 9, 10, 11, 12, 13, 14, 15, 16, 17, 18, 19, 20, 21, 22, 23, 24, 25, 45, 46, 47, 26, 27, 28, 29, 30, 31, 32, 33, 34, 35, 36, 48, 49, 50, 51, 52, 53, 54, 55, 56, 57] (by decide +kernel) (by decide +kernel)
set_option maxRecDepth 20000 in
theorem gX3_nextToward_X3_isBetterStep : GoodIn wsX3_nextToward (wsV RX3 105 RX3 yX3_isBetterStep wsX3_isBetterStep) := goodIn_app (goodIn_of _ (by decide +kernel)) ggX3_nextToward_X3_isBetterStep
theorem dX3_nextToward_0 : decode cX3_nextToward 0 = .ok (.iconst (-1), 1) := by decide +kernel
theorem dX3_nextToward_1 : decode cX3_nextToward 1 = .ok (.istore 4, 2) := by decide +kernel
theorem dX3_nextToward_3 : decode cX3_nextToward 3 = .ok (.iconst 0, 1) := by decide +kernel
theorem dX3_nextToward_4 : decode cX3_nextToward 4 = .ok (.istore 5, 2) := by decide +kernel
theorem dX3_nextToward_6 : decode cX3_nextToward 6 = .ok (.iload 5, 2) := by decide +kernel
theorem dX3_nextToward_8 : decode cX3_nextToward 8 = .ok (.aload_n 0, 1) := by decide +kernel
theorem dX3_nextToward_9 : decode cX3_nextToward 9 = .ok (.getfield 33, 3) := by decide +kernel
theorem dX3_nextToward_12 : decode cX3_nextToward 12 = .ok (.if_icmp .ge 42, 3) := by decide +kernel
theorem dX3_nextToward_15 : decode cX3_nextToward 15 = .ok (.aload_n 0, 1) := by decide +kernel
theorem dX3_nextToward_16 : decode cX3_nextToward 16 = .ok (.iload_n 1, 1) := by decide +kernel
theorem dX3_nextToward_17 : decode cX3_nextToward 17 = .ok (.iload 5, 2) := by decide +kernel
theorem dX3_nextToward_19 : decode cX3_nextToward 19 = .ok (.invokevirtual 77, 3) := by decide +kernel
theorem dX3_nextToward_22 : decode cX3_nextToward 22 = .ok (.ifCond .eq 26, 3) := by decide +kernel
theorem dX3_nextToward_25 : decode cX3_nextToward 25 = .ok (.iload 4, 2) := by decide +kernel
theorem dX3_nextToward_27 : decode cX3_nextToward 27 = .ok (.iconst (-1), 1) := by decide +kernel
theorem dX3_nextToward_28 : decode cX3_nextToward 28 = .ok (.if_icmp .eq 16, 3) := by decide +kernel
theorem dX3_nextToward_31 : decode cX3_nextToward 31 = .ok (.aload_n 0, 1) := by decide +kernel
theorem dX3_nextToward_32 : decode cX3_nextToward 32 = .ok (.iload 5, 2) := by decide +kernel
theorem dX3_nextToward_34 : decode cX3_nextToward 34 = .ok (.iload 4, 2) := by decide +kernel
theorem dX3_nextToward_36 : decode cX3_nextToward 36 = .ok (.iload_n 2, 1) := by decide +kernel
theorem dX3_nextToward_37 : decode cX3_nextToward 37 = .ok (.iload_n 3, 1) := by decide +kernel
theorem dX3_nextToward_38 : decode cX3_nextToward 38 = .ok (.invokevirtual 105, 3) := by decide +kernel
theorem dX3_nextToward_41 : decode cX3_nextToward 41 = .ok (.ifCond .eq 7, 3) := by decide +kernel
theorem dX3_nextToward_44 : decode cX3_nextToward 44 = .ok (.iload 5, 2) := by decide +kernel
theorem dX3_nextToward_46 : decode cX3_nextToward 46 = .ok (.istore 4, 2) := by decide +kernel
theorem dX3_nextToward_48 : decode cX3_nextToward 48 = .ok (.iinc 5 1, 3) := by decide +kernel
theorem dX3_nextToward_51 : decode cX3_nextToward 51 = .ok (.goto (-45), 3) := by decide +kernel
theorem dX3_nextToward_54 : decode cX3_nextToward 54 = .ok (.iload 4, 2) := by decide +kernel
theorem dX3_nextToward_56 : decode cX3_nextToward 56 = .ok (.ireturn, 1) := by decide +kernel
set_option maxRecDepth 20000 in
theorem ggX3_isBetterStep_X3_distance : GoodIn wsX3_isBetterStep wsX3_distance := goodIn_r _ [5, 6, 7, 8, 4, 9, 10, 11, 12, 13, 14, 15, 16, 17, 18, 19, 20, 21, 22, 23, 24, 25, 26, 27, 28, 29, 30, 31, 32, 33, 34, 35, 36, 37, 38, 43, 44, 45, 46, 47, 48] (by decide +kernel) (by decide +kernel)
set_option maxRecDepth 20000 in
theorem gX3_isBetterStep_X3_distance : GoodIn wsX3_isBetterStep (wsV RX3 109 RX3 yX3_distance wsX3_distance) := goodIn_app (goodIn_of _ (by decide +kernel)) ggX3_isBetterStep_X3_distance
set_option maxRecDepth 20000 in
theorem ggX3_isBetterStep_X3_isCornerLower : GoodIn wsX3_isBetterStep wsX3_isCornerLower := goodIn_r _ [42, 10, 32, 11, 12, 13, 14, 15, 16, 43, 44, 45, 46, 47, 48] (by decide +kernel) (by decide +kernel)
set_option maxRecDepth 20000 in
theorem gX3_isBetterStep_X3_isCornerLower : GoodIn wsX3_isBetterStep (wsV RX3 95 RX3 yX3_isCornerLower wsX3_isCornerLower) := goodIn_app (goodIn_of _ (by decide +kernel)) ggX3_isBetterStep_X3_isCornerLower
theorem dX3_isBetterStep_0 : decode cX3_isBetterStep 0 = .ok (.aload_n 0, 1) := by decide +kernel
theorem dX3_isBetterStep_1 : decode cX3_isBetterStep 1 = .ok (.iload_n 1, 1) := by decide +kernel
theorem dX3_isBetterStep_2 : decode cX3_isBetterStep 2 = .ok (.iload_n 3, 1) := by decide +kernel
theorem dX3_isBetterStep_3 : decode cX3_isBetterStep 3 = .ok (.iload 4, 2) := by decide +kernel
theorem dX3_isBetterStep_5 : decode cX3_isBetterStep 5 = .ok (.invokevirtual 109, 3) := by decide +kernel
theorem dX3_isBetterStep_8 : decode cX3_isBetterStep 8 = .ok (.istore 5, 2) := by decide +kernel
theorem dX3_isBetterStep_10 : decode cX3_isBetterStep 10 = .ok (.aload_n 0, 1) := by decide +kernel
theorem dX3_isBetterStep_11 : decode cX3_isBetterStep 11 = .ok (.iload_n 2, 1) := by decide +kernel
theorem dX3_isBetterStep_12 : decode cX3_isBetterStep 12 = .ok (.iload_n 3, 1) := by decide +kernel
theorem dX3_isBetterStep_13 : decode cX3_isBetterStep 13 = .ok (.iload 4, 2) := by decide +kernel
theorem dX3_isBetterStep_15 : decode cX3_isBetterStep 15 = .ok (.invokevirtual 109, 3) := by decide +kernel
theorem dX3_isBetterStep_18 : decode cX3_isBetterStep 18 = .ok (.istore 6, 2) := by decide +kernel
theorem dX3_isBetterStep_20 : decode cX3_isBetterStep 20 = .ok (.iload 5, 2) := by decide +kernel
theorem dX3_isBetterStep_22 : decode cX3_isBetterStep 22 = .ok (.iload 6, 2) := by decide +kernel
theorem dX3_isBetterStep_24 : decode cX3_isBetterStep 24 = .ok (.if_icmp .eq 18, 3) := by decide +kernel
theorem dX3_isBetterStep_27 : decode cX3_isBetterStep 27 = .ok (.iload 5, 2) := by decide +kernel
theorem dX3_isBetterStep_29 : decode cX3_isBetterStep 29 = .ok (.iload 6, 2) := by decide +kernel
theorem dX3_isBetterStep_31 : decode cX3_isBetterStep 31 = .ok (.if_icmp .ge 7, 3) := by decide +kernel
theorem dX3_isBetterStep_34 : decode cX3_isBetterStep 34 = .ok (.iconst 1, 1) := by decide +kernel
theorem dX3_isBetterStep_35 : decode cX3_isBetterStep 35 = .ok (.goto 13, 3) := by decide +kernel
theorem dX3_isBetterStep_38 : decode cX3_isBetterStep 38 = .ok (.iconst 0, 1) := by decide +kernel
theorem dX3_isBetterStep_39 : decode cX3_isBetterStep 39 = .ok (.goto 9, 3) := by decide +kernel
theorem dX3_isBetterStep_42 : decode cX3_isBetterStep 42 = .ok (.aload_n 0, 1) := by decide +kernel
theorem dX3_isBetterStep_43 : decode cX3_isBetterStep 43 = .ok (.iload_n 1, 1) := by decide +kernel
theorem dX3_isBetterStep_44 : decode cX3_isBetterStep 44 = .ok (.iload_n 2, 1) := by decide +kernel
theorem dX3_isBetterStep_45 : decode cX3_isBetterStep 45 = .ok (.invokevirtual 95, 3) := by decide +kernel
theorem dX3_isBetterStep_48 : decode cX3_isBetterStep 48 = .ok (.ireturn, 1) := by decide +kernel
set_option maxRecDepth 20000 in
theorem ggX3_greatestDepth_X4_at : GoodIn wsX3_greatestDepth wsX4_at := goodIn_r _ [11, 12, 18] (by decide +kernel) (by decide +kernel)
set_option maxRecDepth 20000 in
theorem gX3_greatestDepth_X4_at : GoodIn wsX3_greatestDepth (wsV RX3 41 RX4 yX4_at wsX4_at) := goodIn_app (goodIn_of _ (by decide +kernel)) ggX3_greatestDepth_X4_at
theorem dX3_greatestDepth_0 : decode cX3_greatestDepth 0 = .ok (.iconst 0, 1) := by decide +kernel
theorem dX3_greatestDepth_1 : decode cX3_greatestDepth 1 = .ok (.istore_n 1, 1) := by decide +kernel
theorem dX3_greatestDepth_2 : decode cX3_greatestDepth 2 = .ok (.iconst 0, 1) := by decide +kernel
theorem dX3_greatestDepth_3 : decode cX3_greatestDepth 3 = .ok (.istore_n 2, 1) := by decide +kernel
theorem dX3_greatestDepth_4 : decode cX3_greatestDepth 4 = .ok (.iload_n 2, 1) := by decide +kernel
theorem dX3_greatestDepth_5 : decode cX3_greatestDepth 5 = .ok (.aload_n 0, 1) := by decide +kernel
theorem dX3_greatestDepth_6 : decode cX3_greatestDepth 6 = .ok (.getfield 33, 3) := by decide +kernel
theorem dX3_greatestDepth_9 : decode cX3_greatestDepth 9 = .ok (.if_icmp .ge 22, 3) := by decide +kernel
theorem dX3_greatestDepth_12 : decode cX3_greatestDepth 12 = .ok (.iload_n 1, 1) := by decide +kernel
theorem dX3_greatestDepth_13 : decode cX3_greatestDepth 13 = .ok (.aload_n 0, 1) := by decide +kernel
theorem dX3_greatestDepth_14 : decode cX3_greatestDepth 14 = .ok (.getfield 23, 3) := by decide +kernel
theorem dX3_greatestDepth_17 : decode cX3_greatestDepth 17 = .ok (.iload_n 2, 1) := by decide +kernel
theorem dX3_greatestDepth_18 : decode cX3_greatestDepth 18 = .ok (.invokevirtual 41, 3) := by decide +kernel
theorem dX3_greatestDepth_21 : decode cX3_greatestDepth 21 = .ok (.invokestatic 112, 3) := by decide +kernel
theorem dX3_greatestDepth_24 : decode cX3_greatestDepth 24 = .ok (.istore_n 1, 1) := by decide +kernel
theorem dX3_greatestDepth_25 : decode cX3_greatestDepth 25 = .ok (.iinc 2 1, 3) := by decide +kernel
theorem dX3_greatestDepth_28 : decode cX3_greatestDepth 28 = .ok (.goto (-24), 3) := by decide +kernel
theorem dX3_greatestDepth_31 : decode cX3_greatestDepth 31 = .ok (.iload_n 1, 1) := by decide +kernel
theorem dX3_greatestDepth_32 : decode cX3_greatestDepth 32 = .ok (.ireturn, 1) := by decide +kernel
set_option maxRecDepth 20000 in
theorem ggX3_leastDepth_X4_at : GoodIn wsX3_leastDepth wsX4_at := goodIn_r _ [11, 12, 18] (by decide +kernel) (by decide +kernel)
set_option maxRecDepth 20000 in
theorem gX3_leastDepth_X4_at : GoodIn wsX3_leastDepth (wsV RX3 41 RX4 yX4_at wsX4_at) := goodIn_app (goodIn_of _ (by decide +kernel)) ggX3_leastDepth_X4_at
theorem dX3_leastDepth_0 : decode cX3_leastDepth 0 = .ok (.bipush 12, 2) := by decide +kernel
theorem dX3_leastDepth_2 : decode cX3_leastDepth 2 = .ok (.istore_n 1, 1) := by decide +kernel
theorem dX3_leastDepth_3 : decode cX3_leastDepth 3 = .ok (.iconst 0, 1) := by decide +kernel
theorem dX3_leastDepth_4 : decode cX3_leastDepth 4 = .ok (.istore_n 2, 1) := by decide +kernel
theorem dX3_leastDepth_5 : decode cX3_leastDepth 5 = .ok (.iload_n 2, 1) := by decide +kernel
theorem dX3_leastDepth_6 : decode cX3_leastDepth 6 = .ok (.aload_n 0, 1) := by decide +kernel
theorem dX3_leastDepth_7 : decode cX3_leastDepth 7 = .ok (.getfield 33, 3) := by decide +kernel
theorem dX3_leastDepth_10 : decode cX3_leastDepth 10 = .ok (.if_icmp .ge 22, 3) := by decide +kernel
theorem dX3_leastDepth_13 : decode cX3_leastDepth 13 = .ok (.iload_n 1, 1) := by decide +kernel
theorem dX3_leastDepth_14 : decode cX3_leastDepth 14 = .ok (.aload_n 0, 1) := by decide +kernel
theorem dX3_leastDepth_15 : decode cX3_leastDepth 15 = .ok (.getfield 23, 3) := by decide +kernel
theorem dX3_leastDepth_18 : decode cX3_leastDepth 18 = .ok (.iload_n 2, 1) := by decide +kernel
theorem dX3_leastDepth_19 : decode cX3_leastDepth 19 = .ok (.invokevirtual 41, 3) := by decide +kernel
theorem dX3_leastDepth_22 : decode cX3_leastDepth 22 = .ok (.invokestatic 117, 3) := by decide +kernel
theorem dX3_leastDepth_25 : decode cX3_leastDepth 25 = .ok (.istore_n 1, 1) := by decide +kernel
theorem dX3_leastDepth_26 : decode cX3_leastDepth 26 = .ok (.iinc 2 1, 3) := by decide +kernel
theorem dX3_leastDepth_29 : decode cX3_leastDepth 29 = .ok (.goto (-24), 3) := by decide +kernel
theorem dX3_leastDepth_32 : decode cX3_leastDepth 32 = .ok (.iload_n 1, 1) := by decide +kernel
theorem dX3_leastDepth_33 : decode cX3_leastDepth 33 = .ok (.ireturn, 1) := by decide +kernel
set_option maxRecDepth 20000 in
theorem ggX3_put_X5_partX0 : GoodIn wsX3_put wsX5_partX0 := goodIn_r _ [7, 8, 9, 6, 10] (by decide +kernel) (by decide +kernel)
set_option maxRecDepth 20000 in
theorem gX3_put_X5_partX0_n120 : GoodIn wsX3_put (wsX5_partX0) := ggX3_put_X5_partX0
set_option maxRecDepth 20000 in
theorem ggX3_put_X4_put : GoodIn wsX3_put wsX4_put := goodIn_r _ [15, 16, 27] (by decide +kernel) (by decide +kernel)
set_option maxRecDepth 20000 in
theorem gX3_put_X4_put : GoodIn wsX3_put (wsV RX3 29 RX4 yX4_put wsX4_put) := goodIn_app (goodIn_of _ (by decide +kernel)) ggX3_put_X4_put
set_option maxRecDepth 20000 in
theorem ggX3_put_X5_partY0 : GoodIn wsX3_put wsX5_partY0 := goodIn_r _ [18, 19, 20, 6, 21] (by decide +kernel) (by decide +kernel)
set_option maxRecDepth 20000 in
theorem gX3_put_X5_partY0_n123 : GoodIn wsX3_put (wsX5_partY0) := ggX3_put_X5_partY0
theorem dX3_put_0 : decode cX3_put 0 = .ok (.aload_n 0, 1) := by decide +kernel
theorem dX3_put_1 : decode cX3_put 1 = .ok (.getfield 14, 3) := by decide +kernel
theorem dX3_put_4 : decode cX3_put 4 = .ok (.iload_n 1, 1) := by decide +kernel
theorem dX3_put_5 : decode cX3_put 5 = .ok (.iload_n 2, 1) := by decide +kernel
theorem dX3_put_6 : decode cX3_put 6 = .ok (.iload 4, 2) := by decide +kernel
theorem dX3_put_8 : decode cX3_put 8 = .ok (.invokestatic 120, 3) := by decide +kernel
theorem dX3_put_11 : decode cX3_put 11 = .ok (.invokevirtual 29, 3) := by decide +kernel
theorem dX3_put_14 : decode cX3_put 14 = .ok (.aload_n 0, 1) := by decide +kernel
theorem dX3_put_15 : decode cX3_put 15 = .ok (.getfield 20, 3) := by decide +kernel
theorem dX3_put_18 : decode cX3_put 18 = .ok (.iload_n 1, 1) := by decide +kernel
theorem dX3_put_19 : decode cX3_put 19 = .ok (.iload_n 3, 1) := by decide +kernel
theorem dX3_put_20 : decode cX3_put 20 = .ok (.iload 4, 2) := by decide +kernel
theorem dX3_put_22 : decode cX3_put 22 = .ok (.invokestatic 123, 3) := by decide +kernel
theorem dX3_put_25 : decode cX3_put 25 = .ok (.invokevirtual 29, 3) := by decide +kernel
theorem dX3_put_28 : decode cX3_put 28 = .ok (.aload_n 0, 1) := by decide +kernel
theorem dX3_put_29 : decode cX3_put 29 = .ok (.getfield 23, 3) := by decide +kernel
theorem dX3_put_32 : decode cX3_put 32 = .ok (.iload_n 1, 1) := by decide +kernel
theorem dX3_put_33 : decode cX3_put 33 = .ok (.iload 4, 2) := by decide +kernel
theorem dX3_put_35 : decode cX3_put 35 = .ok (.invokevirtual 29, 3) := by decide +kernel
theorem dX3_put_38 : decode cX3_put 38 = .ok (.aload_n 0, 1) := by decide +kernel
theorem dX3_put_39 : decode cX3_put 39 = .ok (.getfield 26, 3) := by decide +kernel
theorem dX3_put_42 : decode cX3_put 42 = .ok (.iload_n 1, 1) := by decide +kernel
theorem dX3_put_43 : decode cX3_put 43 = .ok (.iload 5, 2) := by decide +kernel
theorem dX3_put_45 : decode cX3_put 45 = .ok (.invokevirtual 29, 3) := by decide +kernel
theorem dX3_put_48 : decode cX3_put 48 = .ok (.return_, 1) := by decide +kernel
set_option maxRecDepth 20000 in
theorem ggX3_add_X3_put : GoodIn wsX3_add wsX3_put := goodIn_r _ [6, 7, 8, 9, 10, 11, 12, 13, 14, 15, 16, 17, 18, 19, 20, 21, 22, 23, 24, 25, 26, 27, 28, 29, 30, 31, 32, 33] (by decide +kernel) (by decide +kernel)
set_option maxRecDepth 20000 in
theorem gX3_add_X3_put : GoodIn wsX3_add (wsV RX3 126 RX3 yX3_put wsX3_put) := goodIn_app (goodIn_of _ (by decide +kernel)) ggX3_add_X3_put
theorem dX3_add_0 : decode cX3_add 0 = .ok (.aload_n 0, 1) := by decide +kernel
theorem dX3_add_1 : decode cX3_add 1 = .ok (.getfield 33, 3) := by decide +kernel
theorem dX3_add_4 : decode cX3_add 4 = .ok (.sipush 181, 3) := by decide +kernel
theorem dX3_add_7 : decode cX3_add 7 = .ok (.if_icmp .ge 26, 3) := by decide +kernel
theorem dX3_add_10 : decode cX3_add 10 = .ok (.aload_n 0, 1) := by decide +kernel
theorem dX3_add_11 : decode cX3_add 11 = .ok (.aload_n 0, 1) := by decide +kernel
theorem dX3_add_12 : decode cX3_add 12 = .ok (.getfield 33, 3) := by decide +kernel
theorem dX3_add_15 : decode cX3_add 15 = .ok (.iload_n 1, 1) := by decide +kernel
theorem dX3_add_16 : decode cX3_add 16 = .ok (.iload_n 2, 1) := by decide +kernel
theorem dX3_add_17 : decode cX3_add 17 = .ok (.iload_n 3, 1) := by decide +kernel
theorem dX3_add_18 : decode cX3_add 18 = .ok (.iload 4, 2) := by decide +kernel
theorem dX3_add_20 : decode cX3_add 20 = .ok (.invokevirtual 126, 3) := by decide +kernel
theorem dX3_add_23 : decode cX3_add 23 = .ok (.aload_n 0, 1) := by decide +kernel
theorem dX3_add_24 : decode cX3_add 24 = .ok (.dup, 1) := by decide +kernel
theorem dX3_add_25 : decode cX3_add 25 = .ok (.getfield 33, 3) := by decide +kernel
theorem dX3_add_28 : decode cX3_add 28 = .ok (.iconst 1, 1) := by decide +kernel
theorem dX3_add_29 : decode cX3_add 29 = .ok (.iadd, 1) := by decide +kernel
theorem dX3_add_30 : decode cX3_add 30 = .ok (.putfield 33, 3) := by decide +kernel
theorem dX3_add_33 : decode cX3_add 33 = .ok (.return_, 1) := by decide +kernel
set_option maxRecDepth 20000 in
theorem ggX3_remove_X4_at : GoodIn wsX3_remove wsX4_at := goodIn_r _ [10, 11, 21] (by decide +kernel) (by decide +kernel)
set_option maxRecDepth 20000 in
theorem gX3_remove_X4_at : GoodIn wsX3_remove (wsV RX3 41 RX4 yX4_at wsX4_at) := goodIn_app (goodIn_of _ (by decide +kernel)) ggX3_remove_X4_at
set_option maxRecDepth 20000 in
theorem ggX3_remove_X4_put : GoodIn wsX3_remove wsX4_put := goodIn_r _ [15, 11, 21] (by decide +kernel) (by decide +kernel)
set_option maxRecDepth 20000 in
theorem gX3_remove_X4_put : GoodIn wsX3_remove (wsV RX3 29 RX4 yX4_put wsX4_put) := goodIn_app (goodIn_of _ (by decide +kernel)) ggX3_remove_X4_put
theorem dX3_remove_0 : decode cX3_remove 0 = .ok (.aload_n 0, 1) := by decide +kernel
theorem dX3_remove_1 : decode cX3_remove 1 = .ok (.getfield 33, 3) := by decide +kernel
theorem dX3_remove_4 : decode cX3_remove 4 = .ok (.iconst 1, 1) := by decide +kernel
theorem dX3_remove_5 : decode cX3_remove 5 = .ok (.isub, 1) := by decide +kernel
theorem dX3_remove_6 : decode cX3_remove 6 = .ok (.istore_n 2, 1) := by decide +kernel
theorem dX3_remove_7 : decode cX3_remove 7 = .ok (.aload_n 0, 1) := by decide +kernel
theorem dX3_remove_8 : decode cX3_remove 8 = .ok (.getfield 14, 3) := by decide +kernel
theorem dX3_remove_11 : decode cX3_remove 11 = .ok (.iload_n 1, 1) := by decide +kernel
theorem dX3_remove_12 : decode cX3_remove 12 = .ok (.aload_n 0, 1) := by decide +kernel
theorem dX3_remove_13 : decode cX3_remove 13 = .ok (.getfield 14, 3) := by decide +kernel
theorem dX3_remove_16 : decode cX3_remove 16 = .ok (.iload_n 2, 1) := by decide +kernel
theorem dX3_remove_17 : decode cX3_remove 17 = .ok (.invokevirtual 41, 3) := by decide +kernel
theorem dX3_remove_20 : decode cX3_remove 20 = .ok (.invokevirtual 29, 3) := by decide +kernel
theorem dX3_remove_23 : decode cX3_remove 23 = .ok (.aload_n 0, 1) := by decide +kernel
theorem dX3_remove_24 : decode cX3_remove 24 = .ok (.getfield 20, 3) := by decide +kernel
theorem dX3_remove_27 : decode cX3_remove 27 = .ok (.iload_n 1, 1) := by decide +kernel
theorem dX3_remove_28 : decode cX3_remove 28 = .ok (.aload_n 0, 1) := by decide +kernel
theorem dX3_remove_29 : decode cX3_remove 29 = .ok (.getfield 20, 3) := by decide +kernel
theorem dX3_remove_32 : decode cX3_remove 32 = .ok (.iload_n 2, 1) := by decide +kernel
theorem dX3_remove_33 : decode cX3_remove 33 = .ok (.invokevirtual 41, 3) := by decide +kernel
theorem dX3_remove_36 : decode cX3_remove 36 = .ok (.invokevirtual 29, 3) := by decide +kernel
theorem dX3_remove_39 : decode cX3_remove 39 = .ok (.aload_n 0, 1) := by decide +kernel
theorem dX3_remove_40 : decode cX3_remove 40 = .ok (.getfield 23, 3) := by decide +kernel
theorem dX3_remove_43 : decode cX3_remove 43 = .ok (.iload_n 1, 1) := by decide +kernel
theorem dX3_remove_44 : decode cX3_remove 44 = .ok (.aload_n 0, 1) := by decide +kernel
theorem dX3_remove_45 : decode cX3_remove 45 = .ok (.getfield 23, 3) := by decide +kernel
theorem dX3_remove_48 : decode cX3_remove 48 = .ok (.iload_n 2, 1) := by decide +kernel
theorem dX3_remove_49 : decode cX3_remove 49 = .ok (.invokevirtual 41, 3) := by decide +kernel
theorem dX3_remove_52 : decode cX3_remove 52 = .ok (.invokevirtual 29, 3) := by decide +kernel
theorem dX3_remove_55 : decode cX3_remove 55 = .ok (.aload_n 0, 1) := by decide +kernel
theorem dX3_remove_56 : decode cX3_remove 56 = .ok (.getfield 26, 3) := by decide +kernel
theorem dX3_remove_59 : decode cX3_remove 59 = .ok (.iload_n 1, 1) := by decide +kernel
theorem dX3_remove_60 : decode cX3_remove 60 = .ok (.aload_n 0, 1) := by decide +kernel
theorem dX3_remove_61 : decode cX3_remove 61 = .ok (.getfield 26, 3) := by decide +kernel
theorem dX3_remove_64 : decode cX3_remove 64 = .ok (.iload_n 2, 1) := by decide +kernel
theorem dX3_remove_65 : decode cX3_remove 65 = .ok (.invokevirtual 41, 3) := by decide +kernel
theorem dX3_remove_68 : decode cX3_remove 68 = .ok (.invokevirtual 29, 3) := by decide +kernel
theorem dX3_remove_71 : decode cX3_remove 71 = .ok (.aload_n 0, 1) := by decide +kernel
theorem dX3_remove_72 : decode cX3_remove 72 = .ok (.iload_n 2, 1) := by decide +kernel
theorem dX3_remove_73 : decode cX3_remove 73 = .ok (.putfield 33, 3) := by decide +kernel
theorem dX3_remove_76 : decode cX3_remove 76 = .ok (.return_, 1) := by decide +kernel
set_option maxRecDepth 20000 in
theorem ggX3_giveTo_X4_put : GoodIn wsX3_giveTo wsX4_put := goodIn_r _ [6, 7, 13] (by decide +kernel) (by decide +kernel)
set_option maxRecDepth 20000 in
theorem gX3_giveTo_X4_put : GoodIn wsX3_giveTo (wsV RX3 29 RX4 yX4_put wsX4_put) := goodIn_app (goodIn_of _ (by decide +kernel)) ggX3_giveTo_X4_put
theorem dX3_giveTo_0 : decode cX3_giveTo 0 = .ok (.aload_n 0, 1) := by decide +kernel
theorem dX3_giveTo_1 : decode cX3_giveTo 1 = .ok (.getfield 26, 3) := by decide +kernel
theorem dX3_giveTo_4 : decode cX3_giveTo 4 = .ok (.iload_n 1, 1) := by decide +kernel
theorem dX3_giveTo_5 : decode cX3_giveTo 5 = .ok (.iload_n 2, 1) := by decide +kernel
theorem dX3_giveTo_6 : decode cX3_giveTo 6 = .ok (.invokevirtual 29, 3) := by decide +kernel
theorem dX3_giveTo_9 : decode cX3_giveTo 9 = .ok (.return_, 1) := by decide +kernel
set_option maxRecDepth 20000 in
theorem ggX3_halveDown_X4_at : GoodIn wsX3_halveDown wsX4_at := goodIn_r _ [7, 8, 45] (by decide +kernel) (by decide +kernel)
set_option maxRecDepth 20000 in
theorem gX3_halveDown_X4_at : GoodIn wsX3_halveDown (wsV RX3 41 RX4 yX4_at wsX4_at) := goodIn_app (goodIn_of _ (by decide +kernel)) ggX3_halveDown_X4_at
set_option maxRecDepth 20000 in
theorem ggX3_halveDown_X5_partX0 : GoodIn wsX3_halveDown wsX5_partX0 := goodIn_r _ [11, 12, 13, 10, 14] (by decide +kernel) (by decide +kernel)
set_option maxRecDepth 20000 in
theorem gX3_halveDown_X5_partX0_n120 : GoodIn wsX3_halveDown (wsX5_partX0) := ggX3_halveDown_X5_partX0
set_option maxRecDepth 20000 in
theorem ggX3_halveDown_X5_otherHalfX0 : GoodIn wsX3_halveDown wsX5_otherHalfX0 := goodIn_r _ [16, 12, 13, 10, 14] (by decide +kernel) (by decide +kernel)
set_option maxRecDepth 20000 in
theorem gX3_halveDown_X5_otherHalfX0_n59 : GoodIn wsX3_halveDown (wsX5_otherHalfX0) := ggX3_halveDown_X5_otherHalfX0
set_option maxRecDepth 20000 in
theorem ggX3_halveDown_X5_partY0 : GoodIn wsX3_halveDown wsX5_partY0 := goodIn_r _ [18, 19, 20, 10, 21] (by decide +kernel) (by decide +kernel)
set_option maxRecDepth 20000 in
theorem gX3_halveDown_X5_partY0_n123 : GoodIn wsX3_halveDown (wsX5_partY0) := ggX3_halveDown_X5_partY0
set_option maxRecDepth 20000 in
theorem ggX3_halveDown_X5_otherHalfY0 : GoodIn wsX3_halveDown wsX5_otherHalfY0 := goodIn_r _ [23, 19, 20, 10, 21] (by decide +kernel) (by decide +kernel)
set_option maxRecDepth 20000 in
theorem gX3_halveDown_X5_otherHalfY0_n62 : GoodIn wsX3_halveDown (wsX5_otherHalfY0) := ggX3_halveDown_X5_otherHalfY0
set_option maxRecDepth 20000 in
theorem ggX3_halveDown_X3_add : GoodIn wsX3_halveDown wsX3_add := goodIn_r _ [28, 29, 30, 31, 32, 27, 33, 34, 35, 2, 1, 9, 10, 11, 12, 13, 14, 36, 37, 38, 6, 39, 8, 17, 18, 19, 20, 21, 40, 41, 42, 43, 44, 45] (by decide +kernel) (by decide +kernel)
set_option maxRecDepth 20000 in
theorem gX3_halveDown_X3_add : GoodIn wsX3_halveDown (wsV RX3 129 RX3 yX3_add wsX3_add) := goodIn_app (goodIn_of _ (by decide +kernel)) ggX3_halveDown_X3_add
set_option maxRecDepth 20000 in
theorem ggX3_halveDown_X3_put : GoodIn wsX3_halveDown wsX3_put := goodIn_r _ [33, 34, 35, 2, 1, 9, 10, 11, 12, 13, 14, 36, 37, 38, 6, 39, 8, 17, 18, 19, 20, 21, 40, 41, 42, 43, 44, 45] (by decide +kernel) (by decide +kernel)
set_option maxRecDepth 20000 in
theorem gX3_halveDown_X3_put : GoodIn wsX3_halveDown (wsV RX3 126 RX3 yX3_put wsX3_put) := goodIn_app (goodIn_of _ (by decide +kernel)) ggX3_halveDown_X3_put
theorem dX3_halveDown_0 : decode cX3_halveDown 0 = .ok (.aload_n 0, 1) := by decide +kernel
theorem dX3_halveDown_1 : decode cX3_halveDown 1 = .ok (.getfield 26, 3) := by decide +kernel
theorem dX3_halveDown_4 : decode cX3_halveDown 4 = .ok (.iload_n 1, 1) := by decide +kernel
theorem dX3_halveDown_5 : decode cX3_halveDown 5 = .ok (.invokevirtual 41, 3) := by decide +kernel
theorem dX3_halveDown_8 : decode cX3_halveDown 8 = .ok (.istore 6, 2) := by decide +kernel
theorem dX3_halveDown_10 : decode cX3_halveDown 10 = .ok (.aload_n 0, 1) := by decide +kernel
theorem dX3_halveDown_11 : decode cX3_halveDown 11 = .ok (.getfield 23, 3) := by decide +kernel
theorem dX3_halveDown_14 : decode cX3_halveDown 14 = .ok (.iload_n 1, 1) := by decide +kernel
theorem dX3_halveDown_15 : decode cX3_halveDown 15 = .ok (.invokevirtual 41, 3) := by decide +kernel
theorem dX3_halveDown_18 : decode cX3_halveDown 18 = .ok (.iconst 1, 1) := by decide +kernel
theorem dX3_halveDown_19 : decode cX3_halveDown 19 = .ok (.iadd, 1) := by decide +kernel
theorem dX3_halveDown_20 : decode cX3_halveDown 20 = .ok (.istore 7, 2) := by decide +kernel
theorem dX3_halveDown_22 : decode cX3_halveDown 22 = .ok (.iload 7, 2) := by decide +kernel
theorem dX3_halveDown_24 : decode cX3_halveDown 24 = .ok (.iload 4, 2) := by decide +kernel
theorem dX3_halveDown_26 : decode cX3_halveDown 26 = .ok (.if_icmp .gt 39, 3) := by decide +kernel
theorem dX3_halveDown_29 : decode cX3_halveDown 29 = .ok (.aload_n 0, 1) := by decide +kernel
theorem dX3_halveDown_30 : decode cX3_halveDown 30 = .ok (.iload_n 2, 1) := by decide +kernel
theorem dX3_halveDown_31 : decode cX3_halveDown 31 = .ok (.iload 7, 2) := by decide +kernel
theorem dX3_halveDown_33 : decode cX3_halveDown 33 = .ok (.invokestatic 120, 3) := by decide +kernel
theorem dX3_halveDown_36 : decode cX3_halveDown 36 = .ok (.iload 7, 2) := by decide +kernel
theorem dX3_halveDown_38 : decode cX3_halveDown 38 = .ok (.invokestatic 59, 3) := by decide +kernel
theorem dX3_halveDown_41 : decode cX3_halveDown 41 = .ok (.iload_n 3, 1) := by decide +kernel
theorem dX3_halveDown_42 : decode cX3_halveDown 42 = .ok (.iload 7, 2) := by decide +kernel
theorem dX3_halveDown_44 : decode cX3_halveDown 44 = .ok (.invokestatic 123, 3) := by decide +kernel
theorem dX3_halveDown_47 : decode cX3_halveDown 47 = .ok (.iload 7, 2) := by decide +kernel
theorem dX3_halveDown_49 : decode cX3_halveDown 49 = .ok (.invokestatic 62, 3) := by decide +kernel
theorem dX3_halveDown_52 : decode cX3_halveDown 52 = .ok (.iload 7, 2) := by decide +kernel
theorem dX3_halveDown_54 : decode cX3_halveDown 54 = .ok (.iload 6, 2) := by decide +kernel
theorem dX3_halveDown_56 : decode cX3_halveDown 56 = .ok (.invokevirtual 129, 3) := by decide +kernel
theorem dX3_halveDown_59 : decode cX3_halveDown 59 = .ok (.iinc 7 1, 3) := by decide +kernel
theorem dX3_halveDown_62 : decode cX3_halveDown 62 = .ok (.goto (-40), 3) := by decide +kernel
theorem dX3_halveDown_65 : decode cX3_halveDown 65 = .ok (.aload_n 0, 1) := by decide +kernel
theorem dX3_halveDown_66 : decode cX3_halveDown 66 = .ok (.iload_n 1, 1) := by decide +kernel
theorem dX3_halveDown_67 : decode cX3_halveDown 67 = .ok (.iload_n 2, 1) := by decide +kernel
theorem dX3_halveDown_68 : decode cX3_halveDown 68 = .ok (.iload_n 3, 1) := by decide +kernel
theorem dX3_halveDown_69 : decode cX3_halveDown 69 = .ok (.iload 4, 2) := by decide +kernel
theorem dX3_halveDown_71 : decode cX3_halveDown 71 = .ok (.iload 5, 2) := by decide +kernel
theorem dX3_halveDown_73 : decode cX3_halveDown 73 = .ok (.invokevirtual 126, 3) := by decide +kernel
theorem dX3_halveDown_76 : decode cX3_halveDown 76 = .ok (.return_, 1) := by decide +kernel
set_option maxRecDepth 20000 in
theorem ggX3_join_X4_at : GoodIn wsX3_join wsX4_at := goodIn_r _ [8, 9, 41] (by decide +kernel) (by decide +kernel)
set_option maxRecDepth 20000 in
theorem gX3_join_X4_at : GoodIn wsX3_join (wsV RX3 41 RX4 yX4_at wsX4_at) := goodIn_app (goodIn_of _ (by decide +kernel)) ggX3_join_X4_at
set_option maxRecDepth 20000 in
theorem ggX3_join_X3_put : GoodIn wsX3_join wsX3_put := goodIn_r _ [14, 1, 2, 3, 15, 16, 17, 18, 19, 20, 21, 22, 23, 24, 7, 25, 9, 26, 27, 28, 29, 30, 36, 37, 38, 39, 40, 41] (by decide +kernel) (by decide +kernel)
set_option maxRecDepth 20000 in
theorem gX3_join_X3_put : GoodIn wsX3_join (wsV RX3 126 RX3 yX3_put wsX3_put) := goodIn_app (goodIn_of _ (by decide +kernel)) ggX3_join_X3_put
set_option maxRecDepth 20000 in
theorem ggX3_join_X3_remove : GoodIn wsX3_join wsX3_remove := goodIn_r _ [34, 35, 1, 2, 3, 15, 4, 5, 6, 7, 8, 9, 22, 23, 24, 25, 36, 37, 38, 39, 40, 41] (by decide +kernel) (by decide +kernel)
set_option maxRecDepth 20000 in
theorem gX3_join_X3_remove : GoodIn wsX3_join (wsV RX3 133 RX3 yX3_remove wsX3_remove) := goodIn_app (goodIn_of _ (by decide +kernel)) ggX3_join_X3_remove
theorem dX3_join_0 : decode cX3_join 0 = .ok (.aload_n 0, 1) := by decide +kernel
theorem dX3_join_1 : decode cX3_join 1 = .ok (.iload_n 2, 1) := by decide +kernel
theorem dX3_join_2 : decode cX3_join 2 = .ok (.aload_n 0, 1) := by decide +kernel
theorem dX3_join_3 : decode cX3_join 3 = .ok (.getfield 14, 3) := by decide +kernel
theorem dX3_join_6 : decode cX3_join 6 = .ok (.iload_n 2, 1) := by decide +kernel
theorem dX3_join_7 : decode cX3_join 7 = .ok (.invokevirtual 41, 3) := by decide +kernel
theorem dX3_join_10 : decode cX3_join 10 = .ok (.aload_n 0, 1) := by decide +kernel
theorem dX3_join_11 : decode cX3_join 11 = .ok (.getfield 20, 3) := by decide +kernel
theorem dX3_join_14 : decode cX3_join 14 = .ok (.iload_n 2, 1) := by decide +kernel
theorem dX3_join_15 : decode cX3_join 15 = .ok (.invokevirtual 41, 3) := by decide +kernel
theorem dX3_join_18 : decode cX3_join 18 = .ok (.aload_n 0, 1) := by decide +kernel
theorem dX3_join_19 : decode cX3_join 19 = .ok (.getfield 23, 3) := by decide +kernel
theorem dX3_join_22 : decode cX3_join 22 = .ok (.iload_n 2, 1) := by decide +kernel
theorem dX3_join_23 : decode cX3_join 23 = .ok (.invokevirtual 41, 3) := by decide +kernel
theorem dX3_join_26 : decode cX3_join 26 = .ok (.iconst 1, 1) := by decide +kernel
theorem dX3_join_27 : decode cX3_join 27 = .ok (.isub, 1) := by decide +kernel
theorem dX3_join_28 : decode cX3_join 28 = .ok (.iload_n 3, 1) := by decide +kernel
theorem dX3_join_29 : decode cX3_join 29 = .ok (.invokevirtual 126, 3) := by decide +kernel
theorem dX3_join_32 : decode cX3_join 32 = .ok (.aload_n 0, 1) := by decide +kernel
theorem dX3_join_33 : decode cX3_join 33 = .ok (.iload_n 1, 1) := by decide +kernel
theorem dX3_join_34 : decode cX3_join 34 = .ok (.invokevirtual 133, 3) := by decide +kernel
theorem dX3_join_37 : decode cX3_join 37 = .ok (.return_, 1) := by decide +kernel
set_option maxRecDepth 20000 in
theorem ggX3_joinAll_X3_put : GoodIn wsX3_joinAll wsX3_put := goodIn_r _ [6, 7, 8, 9, 10, 11, 12, 13, 14, 15, 16, 17, 18, 19, 20, 21, 22, 23, 24, 25, 26, 27, 28, 29, 30, 31, 32, 33] (by decide +kernel) (by decide +kernel)
set_option maxRecDepth 20000 in
theorem gX3_joinAll_X3_put : GoodIn wsX3_joinAll (wsV RX3 126 RX3 yX3_put wsX3_put) := goodIn_app (goodIn_of _ (by decide +kernel)) ggX3_joinAll_X3_put
theorem dX3_joinAll_0 : decode cX3_joinAll 0 = .ok (.aload_n 0, 1) := by decide +kernel
theorem dX3_joinAll_1 : decode cX3_joinAll 1 = .ok (.iconst 0, 1) := by decide +kernel
theorem dX3_joinAll_2 : decode cX3_joinAll 2 = .ok (.iconst 0, 1) := by decide +kernel
theorem dX3_joinAll_3 : decode cX3_joinAll 3 = .ok (.iconst 0, 1) := by decide +kernel
theorem dX3_joinAll_4 : decode cX3_joinAll 4 = .ok (.iconst 0, 1) := by decide +kernel
theorem dX3_joinAll_5 : decode cX3_joinAll 5 = .ok (.iconst (-1), 1) := by decide +kernel
theorem dX3_joinAll_6 : decode cX3_joinAll 6 = .ok (.invokevirtual 126, 3) := by decide +kernel
theorem dX3_joinAll_9 : decode cX3_joinAll 9 = .ok (.aload_n 0, 1) := by decide +kernel
theorem dX3_joinAll_10 : decode cX3_joinAll 10 = .ok (.iconst 1, 1) := by decide +kernel
theorem dX3_joinAll_11 : decode cX3_joinAll 11 = .ok (.putfield 33, 3) := by decide +kernel
theorem dX3_joinAll_14 : decode cX3_joinAll 14 = .ok (.return_, 1) := by decide +kernel
theorem dX4_init_0 : decode cX4_init 0 = .ok (.aload_n 0, 1) := by decide +kernel
theorem dX4_init_1 : decode cX4_init 1 = .ok (.invokespecial 1, 3) := by decide +kernel
theorem dX4_init_4 : decode cX4_init 4 = .ok (.aload_n 0, 1) := by decide +kernel
theorem dX4_init_5 : decode cX4_init 5 = .ok (.iload_n 1, 1) := by decide +kernel
theorem dX4_init_6 : decode cX4_init 6 = .ok (.ifCond .le 7, 3) := by decide +kernel
theorem dX4_init_9 : decode cX4_init 9 = .ok (.iload_n 1, 1) := by decide +kernel
theorem dX4_init_10 : decode cX4_init 10 = .ok (.goto 4, 3) := by decide +kernel
theorem dX4_init_13 : decode cX4_init 13 = .ok (.iconst 0, 1) := by decide +kernel
theorem dX4_init_14 : decode cX4_init 14 = .ok (.newarray .int, 2) := by decide +kernel
theorem dX4_init_16 : decode cX4_init 16 = .ok (.putfield 7, 3) := by decide +kernel
theorem dX4_init_19 : decode cX4_init 19 = .ok (.return_, 1) := by decide +kernel
theorem dX4_at_0 : decode cX4_at 0 = .ok (.iload_n 1, 1) := by decide +kernel
theorem dX4_at_1 : decode cX4_at 1 = .ok (.ifCond .lt 21, 3) := by decide +kernel
theorem dX4_at_4 : decode cX4_at 4 = .ok (.iload_n 1, 1) := by decide +kernel
theorem dX4_at_5 : decode cX4_at 5 = .ok (.aload_n 0, 1) := by decide +kernel
theorem dX4_at_6 : decode cX4_at 6 = .ok (.getfield 7, 3) := by decide +kernel
theorem dX4_at_9 : decode cX4_at 9 = .ok (.arraylength, 1) := by decide +kernel
theorem dX4_at_10 : decode cX4_at 10 = .ok (.if_icmp .ge 12, 3) := by decide +kernel
theorem dX4_at_13 : decode cX4_at 13 = .ok (.aload_n 0, 1) := by decide +kernel
theorem dX4_at_14 : decode cX4_at 14 = .ok (.getfield 7, 3) := by decide +kernel
theorem dX4_at_17 : decode cX4_at 17 = .ok (.iload_n 1, 1) := by decide +kernel
theorem dX4_at_18 : decode cX4_at 18 = .ok (.iaload, 1) := by decide +kernel
theorem dX4_at_19 : decode cX4_at 19 = .ok (.goto 4, 3) := by decide +kernel
theorem dX4_at_22 : decode cX4_at 22 = .ok (.iconst 0, 1) := by decide +kernel
theorem dX4_at_23 : decode cX4_at 23 = .ok (.ireturn, 1) := by decide +kernel
theorem dX4_put_0 : decode cX4_put 0 = .ok (.iload_n 1, 1) := by decide +kernel
theorem dX4_put_1 : decode cX4_put 1 = .ok (.ifCond .lt 19, 3) := by decide +kernel
theorem dX4_put_4 : decode cX4_put 4 = .ok (.iload_n 1, 1) := by decide +kernel
theorem dX4_put_5 : decode cX4_put 5 = .ok (.aload_n 0, 1) := by decide +kernel
theorem dX4_put_6 : decode cX4_put 6 = .ok (.getfield 7, 3) := by decide +kernel
theorem dX4_put_9 : decode cX4_put 9 = .ok (.arraylength, 1) := by decide +kernel
theorem dX4_put_10 : decode cX4_put 10 = .ok (.if_icmp .ge 10, 3) := by decide +kernel
theorem dX4_put_13 : decode cX4_put 13 = .ok (.aload_n 0, 1) := by decide +kernel
theorem dX4_put_14 : decode cX4_put 14 = .ok (.getfield 7, 3) := by decide +kernel
theorem dX4_put_17 : decode cX4_put 17 = .ok (.iload_n 1, 1) := by decide +kernel
theorem dX4_put_18 : decode cX4_put 18 = .ok (.iload_n 2, 1) := by decide +kernel
theorem dX4_put_19 : decode cX4_put 19 = .ok (.iastore, 1) := by decide +kernel
theorem dX4_put_20 : decode cX4_put 20 = .ok (.return_, 1) := by decide +kernel
theorem dX4_copyFrom_0 : decode cX4_copyFrom 0 = .ok (.iconst 0, 1) := by decide +kernel
theorem dX4_copyFrom_1 : decode cX4_copyFrom 1 = .ok (.istore_n 3, 1) := by decide +kernel
theorem dX4_copyFrom_2 : decode cX4_copyFrom 2 = .ok (.iload_n 3, 1) := by decide +kernel
theorem dX4_copyFrom_3 : decode cX4_copyFrom 3 = .ok (.iload_n 2, 1) := by decide +kernel
theorem dX4_copyFrom_4 : decode cX4_copyFrom 4 = .ok (.if_icmp .ge 39, 3) := by decide +kernel
theorem dX4_copyFrom_7 : decode cX4_copyFrom 7 = .ok (.iload_n 3, 1) := by decide +kernel
theorem dX4_copyFrom_8 : decode cX4_copyFrom 8 = .ok (.aload_n 0, 1) := by decide +kernel
theorem dX4_copyFrom_9 : decode cX4_copyFrom 9 = .ok (.getfield 7, 3) := by decide +kernel
theorem dX4_copyFrom_12 : decode cX4_copyFrom 12 = .ok (.arraylength, 1) := by decide +kernel
theorem dX4_copyFrom_13 : decode cX4_copyFrom 13 = .ok (.if_icmp .ge 30, 3) := by decide +kernel
theorem dX4_copyFrom_16 : decode cX4_copyFrom 16 = .ok (.iload_n 3, 1) := by decide +kernel
theorem dX4_copyFrom_17 : decode cX4_copyFrom 17 = .ok (.aload_n 1, 1) := by decide +kernel
theorem dX4_copyFrom_18 : decode cX4_copyFrom 18 = .ok (.getfield 7, 3) := by decide +kernel
theorem dX4_copyFrom_21 : decode cX4_copyFrom 21 = .ok (.arraylength, 1) := by decide +kernel
theorem dX4_copyFrom_22 : decode cX4_copyFrom 22 = .ok (.if_icmp .ge 21, 3) := by decide +kernel
theorem dX4_copyFrom_25 : decode cX4_copyFrom 25 = .ok (.aload_n 0, 1) := by decide +kernel
theorem dX4_copyFrom_26 : decode cX4_copyFrom 26 = .ok (.getfield 7, 3) := by decide +kernel
theorem dX4_copyFrom_29 : decode cX4_copyFrom 29 = .ok (.iload_n 3, 1) := by decide +kernel
theorem dX4_copyFrom_30 : decode cX4_copyFrom 30 = .ok (.aload_n 1, 1) := by decide +kernel
theorem dX4_copyFrom_31 : decode cX4_copyFrom 31 = .ok (.getfield 7, 3) := by decide +kernel
theorem dX4_copyFrom_34 : decode cX4_copyFrom 34 = .ok (.iload_n 3, 1) := by decide +kernel
theorem dX4_copyFrom_35 : decode cX4_copyFrom 35 = .ok (.iaload, 1) := by decide +kernel
theorem dX4_copyFrom_36 : decode cX4_copyFrom 36 = .ok (.iastore, 1) := by decide +kernel
theorem dX4_copyFrom_37 : decode cX4_copyFrom 37 = .ok (.iinc 3 1, 3) := by decide +kernel
theorem dX4_copyFrom_40 : decode cX4_copyFrom 40 = .ok (.goto (-38), 3) := by decide +kernel
theorem dX4_copyFrom_43 : decode cX4_copyFrom 43 = .ok (.return_, 1) := by decide +kernel
set_option maxRecDepth 20000 in
theorem ggX5_init_X0_init : GoodIn wsX5_init wsX0_init := goodIn_r _ [21, 22, 2, 3, 23, 24, 25, 26, 27, 28, 29, 30, 31, 32, 33, 34, 35, 36, 37, 38, 39, 40, 41, 42, 43, 44, 45, 46, 47, 48, 49, 50, 51, 52, 53, 54, 55, 56, 93, 94, 95, 96, 97, 70, 71, 72, 73, 74, 75, 76, 77, 78, 79, 80, 81, 98] (by decide +kernel) (by decide +kernel)
set_option maxRecDepth 20000 in
theorem gX5_init_X0_init : GoodIn wsX5_init (wsX0_init) := ggX5_init_X0_init
set_option maxRecDepth 20000 in
theorem ggX5_init_X2_init : GoodIn wsX5_init wsX2_init := goodIn_r _ [59, 60, 2, 3, 61, 62, 5, 6, 63, 20, 21, 22, 23, 24, 25, 26, 27, 28, 29, 30, 31, 32, 33, 34, 35, 36, 37, 38, 39, 40, 41, 42, 43, 44, 45, 46, 47, 48, 49, 50, 51, 52, 53, 54, 55, 56, 88, 89, 90, 70, 71, 72, 73, 74, 75, 76, 77, 78, 79, 80, 81, 93, 94, 95, 96, 97, 98] (by decide +kernel) (by decide +kernel)
set_option maxRecDepth 20000 in
theorem gX5_init_X2_init : GoodIn wsX5_init (wsX2_init) := ggX5_init_X2_init
set_option maxRecDepth 20000 in
theorem ggX5_init_X1_init : GoodIn wsX5_init wsX1_init := goodIn_r _ [66, 67, 2, 3, 68, 69, 91, 92] (by decide +kernel) (by decide +kernel)
set_option maxRecDepth 20000 in
theorem gX5_init_X1_init : GoodIn wsX5_init (wsX1_init) := ggX5_init_X1_init
theorem dX5_init_0 : decode cX5_init 0 = .ok (.aload_n 0, 1) := by decide +kernel
theorem dX5_init_1 : decode cX5_init 1 = .ok (.invokespecial 3, 3) := by decide +kernel
theorem dX5_init_4 : decode cX5_init 4 = .ok (.aload_n 0, 1) := by decide +kernel
theorem dX5_init_5 : decode cX5_init 5 = .ok (.new 9, 3) := by decide +kernel
theorem dX5_init_8 : decode cX5_init 8 = .ok (.dup, 1) := by decide +kernel
theorem dX5_init_9 : decode cX5_init 9 = .ok (.invokespecial 11, 3) := by decide +kernel
theorem dX5_init_12 : decode cX5_init 12 = .ok (.putfield 12, 3) := by decide +kernel
theorem dX5_init_15 : decode cX5_init 15 = .ok (.aload_n 0, 1) := by decide +kernel
theorem dX5_init_16 : decode cX5_init 16 = .ok (.new 9, 3) := by decide +kernel
theorem dX5_init_19 : decode cX5_init 19 = .ok (.dup, 1) := by decide +kernel
theorem dX5_init_20 : decode cX5_init 20 = .ok (.invokespecial 11, 3) := by decide +kernel
theorem dX5_init_23 : decode cX5_init 23 = .ok (.putfield 16, 3) := by decide +kernel
theorem dX5_init_26 : decode cX5_init 26 = .ok (.aload_n 0, 1) := by decide +kernel
theorem dX5_init_27 : decode cX5_init 27 = .ok (.new 9, 3) := by decide +kernel
theorem dX5_init_30 : decode cX5_init 30 = .ok (.dup, 1) := by decide +kernel
theorem dX5_init_31 : decode cX5_init 31 = .ok (.invokespecial 11, 3) := by decide +kernel
theorem dX5_init_34 : decode cX5_init 34 = .ok (.putfield 19, 3) := by decide +kernel
theorem dX5_init_37 : decode cX5_init 37 = .ok (.aload_n 0, 1) := by decide +kernel
theorem dX5_init_38 : decode cX5_init 38 = .ok (.new 22, 3) := by decide +kernel
theorem dX5_init_41 : decode cX5_init 41 = .ok (.dup, 1) := by decide +kernel
theorem dX5_init_42 : decode cX5_init 42 = .ok (.invokespecial 24, 3) := by decide +kernel
theorem dX5_init_45 : decode cX5_init 45 = .ok (.putfield 25, 3) := by decide +kernel
theorem dX5_init_48 : decode cX5_init 48 = .ok (.aload_n 0, 1) := by decide +kernel
theorem dX5_init_49 : decode cX5_init 49 = .ok (.new 29, 3) := by decide +kernel
theorem dX5_init_52 : decode cX5_init 52 = .ok (.dup, 1) := by decide +kernel
theorem dX5_init_53 : decode cX5_init 53 = .ok (.invokespecial 31, 3) := by decide +kernel
theorem dX5_init_56 : decode cX5_init 56 = .ok (.putfield 32, 3) := by decide +kernel
theorem dX5_init_59 : decode cX5_init 59 = .ok (.aload_n 0, 1) := by decide +kernel
theorem dX5_init_60 : decode cX5_init 60 = .ok (.iconst 0, 1) := by decide +kernel
theorem dX5_init_61 : decode cX5_init 61 = .ok (.putfield 36, 3) := by decide +kernel
theorem dX5_init_64 : decode cX5_init 64 = .ok (.return_, 1) := by decide +kernel
set_option maxRecDepth 20000 in
theorem ggX5_come_X5_isPoint : GoodIn wsX5_come wsX5_isPoint := goodIn_r _ [6] (by decide +kernel) (by decide +kernel)
set_option maxRecDepth 20000 in
theorem gX5_come_X5_isPoint : GoodIn wsX5_come (va_wsS RX5 40 yX5_isPoint wsX5_isPoint) := goodIn_app (goodIn_of _ (by decide +kernel)) ggX5_come_X5_isPoint
set_option maxRecDepth 20000 in
theorem ggX5_come_X0_depthForNewcomer : GoodIn wsX5_come wsX0_depthForNewcomer := goodIn_r _ [11, 12, 13, 14, 15, 16, 17, 18, 19, 20, 21, 22, 23, 24, 25, 26, 27, 28, 29, 30, 31, 32, 33, 34, 35, 5, 36, 37, 38, 39, 40, 41, 42, 43, 44, 45, 46, 47, 48, 49, 50, 10, 51, 52, 53, 54, 55, 56, 57, 58, 59, 60, 61, 62, 63, 64, 65, 66, 67, 139, 140, 141, 142, 143, 144, 145, 146, 147, 148, 149, 150, 151, 152, 153, 154, 155, 156] (by decide +kernel) (by decide +kernel)
set_option maxRecDepth 20000 in
theorem gX5_come_X0_depthForNewcomer : GoodIn wsX5_come (wsV RX5 44 RX0 yX0_depthForNewcomer wsX0_depthForNewcomer) := goodIn_app (goodIn_of _ (by decide +kernel)) ggX5_come_X0_depthForNewcomer
set_option maxRecDepth 20000 in
theorem ggX5_come_X2_push : GoodIn wsX5_come wsX2_push := goodIn_r _ [72, 73, 74, 75, 76, 77, 78, 79, 80, 81, 71, 82, 83, 84, 85, 86, 10, 87, 12, 88, 89, 90, 91, 13, 14, 15, 56, 92, 93, 94, 95, 96, 97, 19, 98, 21, 26, 27, 28, 43, 99, 100, 101, 32, 102, 34, 103, 157, 158, 159, 139, 140, 141, 142, 143, 144, 145, 146, 147, 148, 149, 150, 151, 152, 153, 154, 155, 156] (by decide +kernel) (by decide +kernel)
set_option maxRecDepth 20000 in
theorem gX5_come_X2_push : GoodIn wsX5_come (wsV RX5 48 RX2 yX2_push wsX2_push) := goodIn_app (goodIn_of _ (by decide +kernel)) ggX5_come_X2_push
set_option maxRecDepth 20000 in
theorem ggX5_come_X0_settle : GoodIn wsX5_come wsX0_settle := goodIn_r _ [107, 12, 13, 89, 56, 16, 17, 18, 19, 20, 21, 22, 23, 24, 25, 26, 27, 28, 29, 30, 31, 32, 33, 34, 35, 5, 36, 37, 38, 44, 45, 46, 47, 108, 109, 110, 111, 43, 62, 63, 64, 112, 113, 65, 66, 67, 114, 115, 116, 117, 118, 119, 120, 121, 122, 123, 124, 125, 126, 127, 128, 129, 130, 131, 10, 132, 14, 15, 139, 140, 141, 142, 143, 144, 145, 146, 147, 148, 149, 150, 151, 152, 153, 154, 155, 156] (by decide +kernel) (by decide +kernel)
set_option maxRecDepth 20000 in
theorem gX5_come_X0_settle : GoodIn wsX5_come (wsV RX5 52 RX0 yX0_settle wsX0_settle) := goodIn_app (goodIn_of _ (by decide +kernel)) ggX5_come_X0_settle
theorem dX5_come_0 : decode cX5_come 0 = .ok (.iload_n 1, 1) := by decide +kernel
theorem dX5_come_1 : decode cX5_come 1 = .ok (.iload_n 2, 1) := by decide +kernel
theorem dX5_come_2 : decode cX5_come 2 = .ok (.invokestatic 40, 3) := by decide +kernel
theorem dX5_come_5 : decode cX5_come 5 = .ok (.ifCond .ne 5, 3) := by decide +kernel
theorem dX5_come_8 : decode cX5_come 8 = .ok (.iconst (-1), 1) := by decide +kernel
theorem dX5_come_9 : decode cX5_come 9 = .ok (.ireturn, 1) := by decide +kernel
theorem dX5_come_10 : decode cX5_come 10 = .ok (.aload_n 0, 1) := by decide +kernel
theorem dX5_come_11 : decode cX5_come 11 = .ok (.getfield 12, 3) := by decide +kernel
theorem dX5_come_14 : decode cX5_come 14 = .ok (.iload_n 1, 1) := by decide +kernel
theorem dX5_come_15 : decode cX5_come 15 = .ok (.iload_n 2, 1) := by decide +kernel
theorem dX5_come_16 : decode cX5_come 16 = .ok (.invokevirtual 44, 3) := by decide +kernel
theorem dX5_come_19 : decode cX5_come 19 = .ok (.istore_n 3, 1) := by decide +kernel
theorem dX5_come_20 : decode cX5_come 20 = .ok (.iload_n 3, 1) := by decide +kernel
theorem dX5_come_21 : decode cX5_come 21 = .ok (.ifCond .ge 5, 3) := by decide +kernel
theorem dX5_come_24 : decode cX5_come 24 = .ok (.iload_n 3, 1) := by decide +kernel
theorem dX5_come_25 : decode cX5_come 25 = .ok (.ireturn, 1) := by decide +kernel
theorem dX5_come_26 : decode cX5_come 26 = .ok (.aload_n 0, 1) := by decide +kernel
theorem dX5_come_27 : decode cX5_come 27 = .ok (.getfield 25, 3) := by decide +kernel
theorem dX5_come_30 : decode cX5_come 30 = .ok (.aload_n 0, 1) := by decide +kernel
theorem dX5_come_31 : decode cX5_come 31 = .ok (.getfield 12, 3) := by decide +kernel
theorem dX5_come_34 : decode cX5_come 34 = .ok (.invokevirtual 48, 3) := by decide +kernel
theorem dX5_come_37 : decode cX5_come 37 = .ok (.aload_n 0, 1) := by decide +kernel
theorem dX5_come_38 : decode cX5_come 38 = .ok (.getfield 12, 3) := by decide +kernel
theorem dX5_come_41 : decode cX5_come 41 = .ok (.iload_n 1, 1) := by decide +kernel
theorem dX5_come_42 : decode cX5_come 42 = .ok (.iload_n 2, 1) := by decide +kernel
theorem dX5_come_43 : decode cX5_come 43 = .ok (.iload_n 3, 1) := by decide +kernel
theorem dX5_come_44 : decode cX5_come 44 = .ok (.invokevirtual 52, 3) := by decide +kernel
theorem dX5_come_47 : decode cX5_come 47 = .ok (.ireturn, 1) := by decide +kernel
set_option maxRecDepth 20000 in
theorem ggX5_comeAll_X1_fault : GoodIn wsX5_comeAll wsX1_fault := goodIn_r _ [9, 10, 11, 12, 13, 8, 14, 15, 16, 17, 18, 19, 20, 21, 164, 165] (by decide +kernel) (by decide +kernel)
set_option maxRecDepth 20000 in
theorem gX5_comeAll_X1_fault : GoodIn wsX5_comeAll (wsV RX5 56 RX1 yX1_fault wsX1_fault) := goodIn_app (goodIn_of _ (by decide +kernel)) ggX5_comeAll_X1_fault
set_option maxRecDepth 20000 in
theorem ggX5_comeAll_X0_copyFrom : GoodIn wsX5_comeAll wsX0_copyFrom := goodIn_r _ [26, 27, 28, 29, 30, 31, 32, 33, 34, 35, 36, 37, 38, 39, 40, 41, 42, 43, 44, 45, 46, 47, 48, 49, 50, 51, 52, 53, 54, 55, 166, 167, 168, 169, 170, 171, 172, 173, 174, 175, 176, 177, 178, 179, 180, 181, 182, 183] (by decide +kernel) (by decide +kernel)
set_option maxRecDepth 20000 in
theorem gX5_comeAll_X0_copyFrom : GoodIn wsX5_comeAll (wsV RX5 60 RX0 yX0_copyFrom wsX0_copyFrom) := goodIn_app (goodIn_of _ (by decide +kernel)) ggX5_comeAll_X0_copyFrom
set_option maxRecDepth 20000 in
theorem ggX5_comeAll_X1_campers : GoodIn wsX5_comeAll wsX1_campers := goodIn_r _ [59, 10, 11, 12, 13, 8, 14, 15, 164, 165] (by decide +kernel) (by decide +kernel)
set_option maxRecDepth 20000 in
theorem gX5_comeAll_X1_campers : GoodIn wsX5_comeAll (wsV RX5 63 RX1 yX1_campers wsX1_campers) := goodIn_app (goodIn_of _ (by decide +kernel)) ggX5_comeAll_X1_campers
set_option maxRecDepth 20000 in
theorem ggX5_comeAll_X1_number : GoodIn wsX5_comeAll wsX1_number := goodIn_r _ [63, 10, 11, 12, 13, 8, 14, 15, 16, 17, 18, 164, 165] (by decide +kernel) (by decide +kernel)
set_option maxRecDepth 20000 in
theorem gX5_comeAll_X1_number : GoodIn wsX5_comeAll (wsV RX5 66 RX1 yX1_number wsX1_number) := goodIn_app (goodIn_of _ (by decide +kernel)) ggX5_comeAll_X1_number
set_option maxRecDepth 20000 in
theorem ggX5_comeAll_X0_depthForNewcomer : GoodIn wsX5_comeAll wsX0_depthForNewcomer := goodIn_r _ [67, 27, 32, 33, 34, 68, 69, 70, 42, 71, 44, 72, 73, 74, 75, 45, 46, 47, 76, 77, 78, 52, 79, 54, 80, 81, 82, 83, 84, 85, 86, 87, 88, 48, 89, 90, 91, 92, 93, 94, 95, 25, 96, 97, 98, 99, 100, 35, 101, 102, 103, 104, 105, 106, 107, 108, 109, 110, 111, 166, 167, 168, 169, 170, 171, 172, 173, 174, 175, 176, 177, 178, 179, 180, 181, 182, 183] (by decide +kernel) (by decide +kernel)
set_option maxRecDepth 20000 in
theorem gX5_comeAll_X0_depthForNewcomer : GoodIn wsX5_comeAll (wsV RX5 44 RX0 yX0_depthForNewcomer wsX0_depthForNewcomer) := goodIn_app (goodIn_of _ (by decide +kernel)) ggX5_comeAll_X0_depthForNewcomer
set_option maxRecDepth 20000 in
theorem ggX5_comeAll_X0_settle : GoodIn wsX5_comeAll wsX0_settle := goodIn_r _ [115, 27, 32, 29, 35, 68, 69, 70, 42, 71, 44, 72, 73, 74, 75, 45, 46, 47, 76, 77, 78, 52, 79, 54, 80, 81, 82, 83, 84, 89, 90, 91, 92, 116, 117, 118, 119, 48, 106, 107, 108, 120, 121, 109, 110, 111, 122, 123, 124, 125, 126, 127, 128, 129, 130, 131, 132, 133, 134, 135, 136, 137, 138, 139, 25, 140, 33, 34, 166, 167, 168, 169, 170, 171, 172, 173, 174, 175, 176, 177, 178, 179, 180, 181, 182, 183] (by decide +kernel) (by decide +kernel)
set_option maxRecDepth 20000 in
theorem gX5_comeAll_X0_settle : GoodIn wsX5_comeAll (wsV RX5 52 RX0 yX0_settle wsX0_settle) := goodIn_app (goodIn_of _ (by decide +kernel)) ggX5_comeAll_X0_settle
set_option maxRecDepth 20000 in
theorem ggX5_comeAll_X2_push : GoodIn wsX5_comeAll wsX2_push := goodIn_r _ [145, 146, 147, 148, 149, 150, 151, 152, 153, 154, 144, 155, 156, 157, 23, 24, 25, 26, 27, 28, 29, 30, 31, 32, 33, 34, 35, 36, 37, 38, 39, 40, 41, 42, 43, 44, 45, 46, 47, 48, 49, 50, 51, 52, 53, 54, 55, 184, 185, 186, 166, 167, 168, 169, 170, 171, 172, 173, 174, 175, 176, 177, 178, 179, 180, 181, 182, 183] (by decide +kernel) (by decide +kernel)
set_option maxRecDepth 20000 in
theorem gX5_comeAll_X2_push : GoodIn wsX5_comeAll (wsV RX5 48 RX2 yX2_push wsX2_push) := goodIn_app (goodIn_of _ (by decide +kernel)) ggX5_comeAll_X2_push
theorem dX5_comeAll_0 : decode cX5_comeAll 0 = .ok (.aload_n 0, 1) := by decide +kernel
theorem dX5_comeAll_1 : decode cX5_comeAll 1 = .ok (.getfield 32, 3) := by decide +kernel
theorem dX5_comeAll_4 : decode cX5_comeAll 4 = .ok (.invokevirtual 56, 3) := by decide +kernel
theorem dX5_comeAll_7 : decode cX5_comeAll 7 = .ok (.istore_n 1, 1) := by decide +kernel
theorem dX5_comeAll_8 : decode cX5_comeAll 8 = .ok (.iload_n 1, 1) := by decide +kernel
theorem dX5_comeAll_9 : decode cX5_comeAll 9 = .ok (.iconst (-1), 1) := by decide +kernel
theorem dX5_comeAll_10 : decode cX5_comeAll 10 = .ok (.if_icmp .eq 8, 3) := by decide +kernel
theorem dX5_comeAll_13 : decode cX5_comeAll 13 = .ok (.bipush (-100), 2) := by decide +kernel
theorem dX5_comeAll_15 : decode cX5_comeAll 15 = .ok (.iload_n 1, 1) := by decide +kernel
theorem dX5_comeAll_16 : decode cX5_comeAll 16 = .ok (.isub, 1) := by decide +kernel
theorem dX5_comeAll_17 : decode cX5_comeAll 17 = .ok (.ireturn, 1) := by decide +kernel
theorem dX5_comeAll_18 : decode cX5_comeAll 18 = .ok (.aload_n 0, 1) := by decide +kernel
theorem dX5_comeAll_19 : decode cX5_comeAll 19 = .ok (.getfield 16, 3) := by decide +kernel
theorem dX5_comeAll_22 : decode cX5_comeAll 22 = .ok (.aload_n 0, 1) := by decide +kernel
theorem dX5_comeAll_23 : decode cX5_comeAll 23 = .ok (.getfield 12, 3) := by decide +kernel
theorem dX5_comeAll_26 : decode cX5_comeAll 26 = .ok (.invokevirtual 60, 3) := by decide +kernel
theorem dX5_comeAll_29 : decode cX5_comeAll 29 = .ok (.aload_n 0, 1) := by decide +kernel
theorem dX5_comeAll_30 : decode cX5_comeAll 30 = .ok (.getfield 32, 3) := by decide +kernel
theorem dX5_comeAll_33 : decode cX5_comeAll 33 = .ok (.invokevirtual 63, 3) := by decide +kernel
theorem dX5_comeAll_36 : decode cX5_comeAll 36 = .ok (.istore_n 2, 1) := by decide +kernel
theorem dX5_comeAll_37 : decode cX5_comeAll 37 = .ok (.iconst 0, 1) := by decide +kernel
theorem dX5_comeAll_38 : decode cX5_comeAll 38 = .ok (.istore_n 3, 1) := by decide +kernel
theorem dX5_comeAll_39 : decode cX5_comeAll 39 = .ok (.iload_n 3, 1) := by decide +kernel
theorem dX5_comeAll_40 : decode cX5_comeAll 40 = .ok (.iload_n 2, 1) := by decide +kernel
theorem dX5_comeAll_41 : decode cX5_comeAll 41 = .ok (.if_icmp .ge 70, 3) := by decide +kernel
theorem dX5_comeAll_44 : decode cX5_comeAll 44 = .ok (.aload_n 0, 1) := by decide +kernel
theorem dX5_comeAll_45 : decode cX5_comeAll 45 = .ok (.getfield 32, 3) := by decide +kernel
theorem dX5_comeAll_48 : decode cX5_comeAll 48 = .ok (.iconst 2, 1) := by decide +kernel
theorem dX5_comeAll_49 : decode cX5_comeAll 49 = .ok (.iload_n 3, 1) := by decide +kernel
theorem dX5_comeAll_50 : decode cX5_comeAll 50 = .ok (.imul, 1) := by decide +kernel
theorem dX5_comeAll_51 : decode cX5_comeAll 51 = .ok (.invokevirtual 66, 3) := by decide +kernel
theorem dX5_comeAll_54 : decode cX5_comeAll 54 = .ok (.istore 4, 2) := by decide +kernel
theorem dX5_comeAll_56 : decode cX5_comeAll 56 = .ok (.aload_n 0, 1) := by decide +kernel
theorem dX5_comeAll_57 : decode cX5_comeAll 57 = .ok (.getfield 32, 3) := by decide +kernel
theorem dX5_comeAll_60 : decode cX5_comeAll 60 = .ok (.iconst 2, 1) := by decide +kernel
theorem dX5_comeAll_61 : decode cX5_comeAll 61 = .ok (.iload_n 3, 1) := by decide +kernel
theorem dX5_comeAll_62 : decode cX5_comeAll 62 = .ok (.imul, 1) := by decide +kernel
theorem dX5_comeAll_63 : decode cX5_comeAll 63 = .ok (.iconst 1, 1) := by decide +kernel
theorem dX5_comeAll_64 : decode cX5_comeAll 64 = .ok (.iadd, 1) := by decide +kernel
theorem dX5_comeAll_65 : decode cX5_comeAll 65 = .ok (.invokevirtual 66, 3) := by decide +kernel
theorem dX5_comeAll_68 : decode cX5_comeAll 68 = .ok (.istore 5, 2) := by decide +kernel
theorem dX5_comeAll_70 : decode cX5_comeAll 70 = .ok (.aload_n 0, 1) := by decide +kernel
theorem dX5_comeAll_71 : decode cX5_comeAll 71 = .ok (.getfield 16, 3) := by decide +kernel
theorem dX5_comeAll_74 : decode cX5_comeAll 74 = .ok (.iload 4, 2) := by decide +kernel
theorem dX5_comeAll_76 : decode cX5_comeAll 76 = .ok (.iload 5, 2) := by decide +kernel
theorem dX5_comeAll_78 : decode cX5_comeAll 78 = .ok (.invokevirtual 44, 3) := by decide +kernel
theorem dX5_comeAll_81 : decode cX5_comeAll 81 = .ok (.istore 6, 2) := by decide +kernel
theorem dX5_comeAll_83 : decode cX5_comeAll 83 = .ok (.iload 6, 2) := by decide +kernel
theorem dX5_comeAll_85 : decode cX5_comeAll 85 = .ok (.ifCond .ge 6, 3) := by decide +kernel
theorem dX5_comeAll_88 : decode cX5_comeAll 88 = .ok (.iload 6, 2) := by decide +kernel
theorem dX5_comeAll_90 : decode cX5_comeAll 90 = .ok (.ireturn, 1) := by decide +kernel
theorem dX5_comeAll_91 : decode cX5_comeAll 91 = .ok (.aload_n 0, 1) := by decide +kernel
theorem dX5_comeAll_92 : decode cX5_comeAll 92 = .ok (.getfield 16, 3) := by decide +kernel
theorem dX5_comeAll_95 : decode cX5_comeAll 95 = .ok (.iload 4, 2) := by decide +kernel
theorem dX5_comeAll_97 : decode cX5_comeAll 97 = .ok (.iload 5, 2) := by decide +kernel
theorem dX5_comeAll_99 : decode cX5_comeAll 99 = .ok (.iload 6, 2) := by decide +kernel
theorem dX5_comeAll_101 : decode cX5_comeAll 101 = .ok (.invokevirtual 52, 3) := by decide +kernel
theorem dX5_comeAll_104 : decode cX5_comeAll 104 = .ok (.pop, 1) := by decide +kernel
theorem dX5_comeAll_105 : decode cX5_comeAll 105 = .ok (.iinc 3 1, 3) := by decide +kernel
theorem dX5_comeAll_108 : decode cX5_comeAll 108 = .ok (.goto (-69), 3) := by decide +kernel
theorem dX5_comeAll_111 : decode cX5_comeAll 111 = .ok (.aload_n 0, 1) := by decide +kernel
theorem dX5_comeAll_112 : decode cX5_comeAll 112 = .ok (.getfield 25, 3) := by decide +kernel
theorem dX5_comeAll_115 : decode cX5_comeAll 115 = .ok (.aload_n 0, 1) := by decide +kernel
theorem dX5_comeAll_116 : decode cX5_comeAll 116 = .ok (.getfield 12, 3) := by decide +kernel
theorem dX5_comeAll_119 : decode cX5_comeAll 119 = .ok (.invokevirtual 48, 3) := by decide +kernel
theorem dX5_comeAll_122 : decode cX5_comeAll 122 = .ok (.aload_n 0, 1) := by decide +kernel
theorem dX5_comeAll_123 : decode cX5_comeAll 123 = .ok (.getfield 12, 3) := by decide +kernel
theorem dX5_comeAll_126 : decode cX5_comeAll 126 = .ok (.aload_n 0, 1) := by decide +kernel
theorem dX5_comeAll_127 : decode cX5_comeAll 127 = .ok (.getfield 16, 3) := by decide +kernel
theorem dX5_comeAll_130 : decode cX5_comeAll 130 = .ok (.invokevirtual 60, 3) := by decide +kernel
theorem dX5_comeAll_133 : decode cX5_comeAll 133 = .ok (.iload_n 2, 1) := by decide +kernel
theorem dX5_comeAll_134 : decode cX5_comeAll 134 = .ok (.ireturn, 1) := by decide +kernel
set_option maxRecDepth 20000 in
theorem ggX5_leave_X0_isHere : GoodIn wsX5_leave wsX0_isHere := goodIn_r _ [7, 8, 9, 10, 11, 12, 13, 14, 15, 187, 188, 189, 190, 191, 192, 193, 194, 195, 196, 197, 198, 199] (by decide +kernel) (by decide +kernel)
set_option maxRecDepth 20000 in
theorem gX5_leave_X0_isHere : GoodIn wsX5_leave (wsV RX5 70 RX0 yX0_isHere wsX0_isHere) := goodIn_app (goodIn_of _ (by decide +kernel)) ggX5_leave_X0_isHere
set_option maxRecDepth 20000 in
theorem ggX5_leave_X2_push : GoodIn wsX5_leave wsX2_push := goodIn_r _ [20, 21, 22, 23, 24, 25, 26, 27, 28, 29, 19, 30, 31, 32, 33, 34, 6, 35, 8, 36, 37, 38, 39, 40, 41, 42, 9, 43, 44, 45, 46, 47, 48, 49, 50, 51, 52, 53, 54, 55, 56, 57, 58, 13, 59, 15, 60, 200, 201, 202, 187, 188, 189, 190, 191, 192, 193, 194, 195, 196, 197, 198, 203, 204, 205, 206, 207, 199] (by decide +kernel) (by decide +kernel)
set_option maxRecDepth 20000 in
theorem gX5_leave_X2_push : GoodIn wsX5_leave (wsV RX5 48 RX2 yX2_push wsX2_push) := goodIn_app (goodIn_of _ (by decide +kernel)) ggX5_leave_X2_push
set_option maxRecDepth 20000 in
theorem ggX5_leave_X0_sendAway : GoodIn wsX5_leave wsX0_sendAway := goodIn_r _ [64, 9, 40, 65, 66, 67, 13, 68, 15, 69, 70, 71, 6, 72, 8, 10, 11, 12, 14, 73, 74, 75, 49, 76, 51, 77, 78, 79, 80, 52, 53, 54, 55, 81, 82, 83, 84, 85, 86, 87, 88, 89, 90, 91, 92, 93, 94, 95, 96, 97, 98, 99, 100, 101, 102, 103, 104, 105, 106, 107, 108, 109, 39, 38, 110, 111, 112, 113, 114, 115, 116, 117, 118, 119, 120, 121, 122, 123, 124, 125, 126, 127, 128, 129, 130, 131, 132, 133, 134, 135, 136, 137, 138, 139, 140, 141, 142, 143, 144, 145, 146, 147, 148, 149, 150, 151, 152, 153, 154, 155, 156, 4, 5, 7, 157, 158, 159, 160, 161, 162, 163, 164, 165, 166, 167, 168, 169, 170, 171, 172, 173, 174, 175, 176, 177, 178, 179, 187, 188, 189, 190, 191, 192, 193, 194, 195, 196, 197, 198, 199, 203, 204, 205, 206, 207] (by decide +kernel) (by decide +kernel)
set_option maxRecDepth 20000 in
theorem gX5_leave_X0_sendAway : GoodIn wsX5_leave (wsV RX5 74 RX0 yX0_sendAway wsX0_sendAway) := goodIn_app (goodIn_of _ (by decide +kernel)) ggX5_leave_X0_sendAway
set_option maxRecDepth 20000 in
theorem ggX5_leave_X0_campersHere : GoodIn wsX5_leave wsX0_campersHere := goodIn_r _ [72, 8, 9, 10, 11, 12, 13, 14, 15, 187, 188, 189, 190, 191, 192, 193, 194, 195, 196, 197, 198, 199] (by decide +kernel) (by decide +kernel)
set_option maxRecDepth 20000 in
theorem gX5_leave_X0_campersHere : GoodIn wsX5_leave (wsV RX5 78 RX0 yX0_campersHere wsX0_campersHere) := goodIn_app (goodIn_of _ (by decide +kernel)) ggX5_leave_X0_campersHere
theorem dX5_leave_0 : decode cX5_leave 0 = .ok (.aload_n 0, 1) := by decide +kernel
theorem dX5_leave_1 : decode cX5_leave 1 = .ok (.getfield 12, 3) := by decide +kernel
theorem dX5_leave_4 : decode cX5_leave 4 = .ok (.iload_n 1, 1) := by decide +kernel
theorem dX5_leave_5 : decode cX5_leave 5 = .ok (.invokevirtual 70, 3) := by decide +kernel
theorem dX5_leave_8 : decode cX5_leave 8 = .ok (.ifCond .ne 5, 3) := by decide +kernel
theorem dX5_leave_11 : decode cX5_leave 11 = .ok (.iconst (-1), 1) := by decide +kernel
theorem dX5_leave_12 : decode cX5_leave 12 = .ok (.ireturn, 1) := by decide +kernel
theorem dX5_leave_13 : decode cX5_leave 13 = .ok (.aload_n 0, 1) := by decide +kernel
theorem dX5_leave_14 : decode cX5_leave 14 = .ok (.getfield 25, 3) := by decide +kernel
theorem dX5_leave_17 : decode cX5_leave 17 = .ok (.aload_n 0, 1) := by decide +kernel
theorem dX5_leave_18 : decode cX5_leave 18 = .ok (.getfield 12, 3) := by decide +kernel
theorem dX5_leave_21 : decode cX5_leave 21 = .ok (.invokevirtual 48, 3) := by decide +kernel
theorem dX5_leave_24 : decode cX5_leave 24 = .ok (.aload_n 0, 1) := by decide +kernel
theorem dX5_leave_25 : decode cX5_leave 25 = .ok (.getfield 12, 3) := by decide +kernel
theorem dX5_leave_28 : decode cX5_leave 28 = .ok (.iload_n 1, 1) := by decide +kernel
theorem dX5_leave_29 : decode cX5_leave 29 = .ok (.invokevirtual 74, 3) := by decide +kernel
theorem dX5_leave_32 : decode cX5_leave 32 = .ok (.aload_n 0, 1) := by decide +kernel
theorem dX5_leave_33 : decode cX5_leave 33 = .ok (.getfield 12, 3) := by decide +kernel
theorem dX5_leave_36 : decode cX5_leave 36 = .ok (.invokevirtual 78, 3) := by decide +kernel
theorem dX5_leave_39 : decode cX5_leave 39 = .ok (.ireturn, 1) := by decide +kernel
set_option maxRecDepth 20000 in
theorem ggX5_moveTent_X0_isHere : GoodIn wsX5_moveTent wsX0_isHere := goodIn_r _ [7, 8, 9, 10, 11, 12, 13, 14, 15, 101, 102, 103, 104, 105, 106, 107, 108, 109, 110, 111, 112, 113] (by decide +kernel) (by decide +kernel)
set_option maxRecDepth 20000 in
theorem gX5_moveTent_X0_isHere : GoodIn wsX5_moveTent (wsV RX5 70 RX0 yX0_isHere wsX0_isHere) := goodIn_app (goodIn_of _ (by decide +kernel)) ggX5_moveTent_X0_isHere
set_option maxRecDepth 20000 in
theorem ggX5_moveTent_X5_isPoint : GoodIn wsX5_moveTent wsX5_isPoint := goodIn_r _ [19] (by decide +kernel) (by decide +kernel)
set_option maxRecDepth 20000 in
theorem gX5_moveTent_X5_isPoint : GoodIn wsX5_moveTent (va_wsS RX5 40 yX5_isPoint wsX5_isPoint) := goodIn_app (goodIn_of _ (by decide +kernel)) ggX5_moveTent_X5_isPoint
set_option maxRecDepth 20000 in
theorem ggX5_moveTent_X3_find : GoodIn wsX5_moveTent wsX3_find := goodIn_r _ [24, 25, 26, 27, 28, 23, 29, 30, 31, 32, 33, 11, 12, 13, 14, 15, 34, 18, 35, 36, 37, 114, 115, 116, 117, 118, 113] (by decide +kernel) (by decide +kernel)
set_option maxRecDepth 20000 in
theorem gX5_moveTent_X3_find : GoodIn wsX5_moveTent (wsV RX5 85 RX3 yX3_find wsX3_find) := goodIn_app (goodIn_of _ (by decide +kernel)) ggX5_moveTent_X3_find
set_option maxRecDepth 20000 in
theorem ggX5_moveTent_X3_ownerOf : GoodIn wsX5_moveTent wsX3_ownerOf := goodIn_r _ [41, 42, 33, 11, 12, 13, 14, 15, 114, 115, 116, 117, 118, 113] (by decide +kernel) (by decide +kernel)
set_option maxRecDepth 20000 in
theorem gX5_moveTent_X3_ownerOf : GoodIn wsX5_moveTent (wsV RX5 90 RX3 yX3_ownerOf wsX3_ownerOf) := goodIn_app (goodIn_of _ (by decide +kernel)) ggX5_moveTent_X3_ownerOf
set_option maxRecDepth 20000 in
theorem ggX5_moveTent_X4_at : GoodIn wsX5_moveTent wsX4_at := goodIn_r _ [14, 15, 113] (by decide +kernel) (by decide +kernel)
set_option maxRecDepth 20000 in
theorem gX5_moveTent_X4_at : GoodIn wsX5_moveTent (wsV RX5 97 RX4 yX4_at wsX4_at) := goodIn_app (goodIn_of _ (by decide +kernel)) ggX5_moveTent_X4_at
set_option maxRecDepth 20000 in
theorem ggX5_moveTent_X2_push : GoodIn wsX5_moveTent wsX2_push := goodIn_r _ [48, 49, 50, 51, 52, 53, 54, 55, 56, 57, 47, 58, 59, 60, 61, 62, 6, 63, 8, 64, 65, 66, 67, 68, 69, 70, 9, 71, 72, 73, 74, 75, 76, 23, 77, 25, 30, 31, 32, 42, 78, 79, 80, 13, 81, 15, 82, 119, 120, 121, 101, 102, 103, 104, 105, 106, 107, 108, 109, 110, 111, 112, 114, 115, 116, 117, 118, 113] (by decide +kernel) (by decide +kernel)
set_option maxRecDepth 20000 in
theorem gX5_moveTent_X2_push : GoodIn wsX5_moveTent (wsV RX5 48 RX2 yX2_push wsX2_push) := goodIn_app (goodIn_of _ (by decide +kernel)) ggX5_moveTent_X2_push
set_option maxRecDepth 20000 in
theorem ggX5_moveTent_X0_pitch : GoodIn wsX5_moveTent wsX0_pitch := goodIn_r _ [86, 69, 70, 87, 88, 89, 13, 90, 15, 101, 102, 103, 104, 105, 106, 107, 108, 109, 110, 111, 112, 113] (by decide +kernel) (by decide +kernel)
set_option maxRecDepth 20000 in
theorem gX5_moveTent_X0_pitch : GoodIn wsX5_moveTent (wsV RX5 105 RX0 yX0_pitch wsX0_pitch) := goodIn_app (goodIn_of _ (by decide +kernel)) ggX5_moveTent_X0_pitch
set_option maxRecDepth 20000 in
theorem ggX5_moveTent_X3_depthOf : GoodIn wsX5_moveTent wsX3_depthOf := goodIn_r _ [94, 32, 33, 11, 12, 13, 14, 15, 114, 115, 116, 117, 118, 113] (by decide +kernel) (by decide +kernel)
set_option maxRecDepth 20000 in
theorem gX5_moveTent_X3_depthOf : GoodIn wsX5_moveTent (wsV RX5 109 RX3 yX3_depthOf wsX3_depthOf) := goodIn_app (goodIn_of _ (by decide +kernel)) ggX5_moveTent_X3_depthOf
theorem dX5_moveTent_0 : decode cX5_moveTent 0 = .ok (.aload_n 0, 1) := by decide +kernel
theorem dX5_moveTent_1 : decode cX5_moveTent 1 = .ok (.getfield 12, 3) := by decide +kernel
theorem dX5_moveTent_4 : decode cX5_moveTent 4 = .ok (.iload_n 1, 1) := by decide +kernel
theorem dX5_moveTent_5 : decode cX5_moveTent 5 = .ok (.invokevirtual 70, 3) := by decide +kernel
theorem dX5_moveTent_8 : decode cX5_moveTent 8 = .ok (.ifCond .eq 11, 3) := by decide +kernel
theorem dX5_moveTent_11 : decode cX5_moveTent 11 = .ok (.iload_n 2, 1) := by decide +kernel
theorem dX5_moveTent_12 : decode cX5_moveTent 12 = .ok (.iload_n 3, 1) := by decide +kernel
theorem dX5_moveTent_13 : decode cX5_moveTent 13 = .ok (.invokestatic 40, 3) := by decide +kernel
theorem dX5_moveTent_16 : decode cX5_moveTent 16 = .ok (.ifCond .ne 5, 3) := by decide +kernel
theorem dX5_moveTent_19 : decode cX5_moveTent 19 = .ok (.iconst (-1), 1) := by decide +kernel
theorem dX5_moveTent_20 : decode cX5_moveTent 20 = .ok (.ireturn, 1) := by decide +kernel
theorem dX5_moveTent_21 : decode cX5_moveTent 21 = .ok (.aload_n 0, 1) := by decide +kernel
theorem dX5_moveTent_22 : decode cX5_moveTent 22 = .ok (.getfield 12, 3) := by decide +kernel
theorem dX5_moveTent_25 : decode cX5_moveTent 25 = .ok (.getfield 81, 3) := by decide +kernel
theorem dX5_moveTent_28 : decode cX5_moveTent 28 = .ok (.iload_n 2, 1) := by decide +kernel
theorem dX5_moveTent_29 : decode cX5_moveTent 29 = .ok (.iload_n 3, 1) := by decide +kernel
theorem dX5_moveTent_30 : decode cX5_moveTent 30 = .ok (.invokevirtual 85, 3) := by decide +kernel
theorem dX5_moveTent_33 : decode cX5_moveTent 33 = .ok (.istore 4, 2) := by decide +kernel
theorem dX5_moveTent_35 : decode cX5_moveTent 35 = .ok (.aload_n 0, 1) := by decide +kernel
theorem dX5_moveTent_36 : decode cX5_moveTent 36 = .ok (.getfield 12, 3) := by decide +kernel
theorem dX5_moveTent_39 : decode cX5_moveTent 39 = .ok (.getfield 81, 3) := by decide +kernel
theorem dX5_moveTent_42 : decode cX5_moveTent 42 = .ok (.iload 4, 2) := by decide +kernel
theorem dX5_moveTent_44 : decode cX5_moveTent 44 = .ok (.invokevirtual 90, 3) := by decide +kernel
theorem dX5_moveTent_47 : decode cX5_moveTent 47 = .ok (.iload_n 1, 1) := by decide +kernel
theorem dX5_moveTent_48 : decode cX5_moveTent 48 = .ok (.if_icmp .eq 6, 3) := by decide +kernel
theorem dX5_moveTent_51 : decode cX5_moveTent 51 = .ok (.bipush (-4), 2) := by decide +kernel
theorem dX5_moveTent_53 : decode cX5_moveTent 53 = .ok (.ireturn, 1) := by decide +kernel
theorem dX5_moveTent_54 : decode cX5_moveTent 54 = .ok (.aload_n 0, 1) := by decide +kernel
theorem dX5_moveTent_55 : decode cX5_moveTent 55 = .ok (.getfield 12, 3) := by decide +kernel
theorem dX5_moveTent_58 : decode cX5_moveTent 58 = .ok (.getfield 93, 3) := by decide +kernel
theorem dX5_moveTent_61 : decode cX5_moveTent 61 = .ok (.iload_n 1, 1) := by decide +kernel
theorem dX5_moveTent_62 : decode cX5_moveTent 62 = .ok (.invokevirtual 97, 3) := by decide +kernel
theorem dX5_moveTent_65 : decode cX5_moveTent 65 = .ok (.iload_n 2, 1) := by decide +kernel
theorem dX5_moveTent_66 : decode cX5_moveTent 66 = .ok (.if_icmp .ne 21, 3) := by decide +kernel
theorem dX5_moveTent_69 : decode cX5_moveTent 69 = .ok (.aload_n 0, 1) := by decide +kernel
theorem dX5_moveTent_70 : decode cX5_moveTent 70 = .ok (.getfield 12, 3) := by decide +kernel
theorem dX5_moveTent_73 : decode cX5_moveTent 73 = .ok (.getfield 102, 3) := by decide +kernel
theorem dX5_moveTent_76 : decode cX5_moveTent 76 = .ok (.iload_n 1, 1) := by decide +kernel
theorem dX5_moveTent_77 : decode cX5_moveTent 77 = .ok (.invokevirtual 97, 3) := by decide +kernel
theorem dX5_moveTent_80 : decode cX5_moveTent 80 = .ok (.iload_n 3, 1) := by decide +kernel
theorem dX5_moveTent_81 : decode cX5_moveTent 81 = .ok (.if_icmp .ne 6, 3) := by decide +kernel
theorem dX5_moveTent_84 : decode cX5_moveTent 84 = .ok (.bipush (-5), 2) := by decide +kernel
theorem dX5_moveTent_86 : decode cX5_moveTent 86 = .ok (.ireturn, 1) := by decide +kernel
theorem dX5_moveTent_87 : decode cX5_moveTent 87 = .ok (.aload_n 0, 1) := by decide +kernel
theorem dX5_moveTent_88 : decode cX5_moveTent 88 = .ok (.getfield 25, 3) := by decide +kernel
theorem dX5_moveTent_91 : decode cX5_moveTent 91 = .ok (.aload_n 0, 1) := by decide +kernel
theorem dX5_moveTent_92 : decode cX5_moveTent 92 = .ok (.getfield 12, 3) := by decide +kernel
theorem dX5_moveTent_95 : decode cX5_moveTent 95 = .ok (.invokevirtual 48, 3) := by decide +kernel
theorem dX5_moveTent_98 : decode cX5_moveTent 98 = .ok (.aload_n 0, 1) := by decide +kernel
theorem dX5_moveTent_99 : decode cX5_moveTent 99 = .ok (.getfield 12, 3) := by decide +kernel
theorem dX5_moveTent_102 : decode cX5_moveTent 102 = .ok (.iload_n 1, 1) := by decide +kernel
theorem dX5_moveTent_103 : decode cX5_moveTent 103 = .ok (.iload_n 2, 1) := by decide +kernel
theorem dX5_moveTent_104 : decode cX5_moveTent 104 = .ok (.iload_n 3, 1) := by decide +kernel
theorem dX5_moveTent_105 : decode cX5_moveTent 105 = .ok (.invokevirtual 105, 3) := by decide +kernel
theorem dX5_moveTent_108 : decode cX5_moveTent 108 = .ok (.aload_n 0, 1) := by decide +kernel
theorem dX5_moveTent_109 : decode cX5_moveTent 109 = .ok (.getfield 12, 3) := by decide +kernel
theorem dX5_moveTent_112 : decode cX5_moveTent 112 = .ok (.getfield 81, 3) := by decide +kernel
theorem dX5_moveTent_115 : decode cX5_moveTent 115 = .ok (.iload 4, 2) := by decide +kernel
theorem dX5_moveTent_117 : decode cX5_moveTent 117 = .ok (.invokevirtual 109, 3) := by decide +kernel
theorem dX5_moveTent_120 : decode cX5_moveTent 120 = .ok (.ireturn, 1) := by decide +kernel
set_option maxRecDepth 20000 in
theorem ggX5_handOver_X5_isPoint : GoodIn wsX5_handOver wsX5_isPoint := goodIn_r _ [6] (by decide +kernel) (by decide +kernel)

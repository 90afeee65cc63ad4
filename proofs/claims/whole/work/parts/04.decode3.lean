theorem dX5_moveTent_55 : decode cX5_moveTent 55 = .ok (.getfield 12, 3) := by decide +kernel
theorem dX5_moveTent_58 : decode cX5_moveTent 58 = .ok (.getfield 93, 3) := by decide +kernel
theorem dX5_moveTent_61 : decode cX5_moveTent 61 = .ok (.iload_n 1, 1) := by decide +kernel
theorem dX5_moveTent_62 : decode cX5_moveTent 62 = .ok (.invokevirtual 97, 3) := by decide +kernel
theorem dX5_moveTent_65 : decode cX5_moveTent 65 = .ok (.iload_n 2, 1) := by decide +kernel
theorem dX5_moveTent_66 : decode cX5_moveTent 66 = .ok (.if_icmp .ne 21, 3) := by decide +kernel
theorem dX5_moveTent_69 : decode cX5_moveTent 69 = .ok (.aload_n 0, 1) := by decide +kernel
theorem dX5_moveTent_70 : decode cX5_moveTent 70 = .ok (.getfield 12, 3) := by decide +kernel
theorem dX5_moveTent_73 : decode cX5_moveTent 73 = .ok (.getfield 102, 3) := by decide +kernel
theorem dX5_moveTent_76 : decode cX5_moveTent 76 = .ok (.iload_n 1, 1) := by decide +kernel
theorem dX5_moveTent_77 : decode cX5_moveTent 77 = .ok (.invokevirtual 97, 3) := by decide +kernel
theorem dX5_moveTent_80 : decode cX5_moveTent 80 = .ok (.iload_n 3, 1) := by decide +kernel
theorem dX5_moveTent_81 : decode cX5_moveTent 81 = .ok (.if_icmp .ne 6, 3) := by decide +kernel
theorem dX5_moveTent_84 : decode cX5_moveTent 84 = .ok (.bipush (-5), 2) := by decide +kernel
theorem dX5_moveTent_86 : decode cX5_moveTent 86 = .ok (.ireturn, 1) := by decide +kernel
theorem dX5_moveTent_87 : decode cX5_moveTent 87 = .ok (.aload_n 0, 1) := by decide +kernel
theorem dX5_moveTent_88 : decode cX5_moveTent 88 = .ok (.getfield 25, 3) := by decide +kernel
theorem dX5_moveTent_91 : decode cX5_moveTent 91 = .ok (.aload_n 0, 1) := by decide +kernel
theorem dX5_moveTent_92 : decode cX5_moveTent 92 = .ok (.getfield 12, 3) := by decide +kernel
theorem dX5_moveTent_95 : decode cX5_moveTent 95 = .ok (.invokevirtual 48, 3) := by decide +kernel
theorem dX5_moveTent_98 : decode cX5_moveTent 98 = .ok (.aload_n 0, 1) := by decide +kernel
theorem dX5_moveTent_99 : decode cX5_moveTent 99 = .ok (.getfield 12, 3) := by decide +kernel
theorem dX5_moveTent_102 : decode cX5_moveTent 102 = .ok (.iload_n 1, 1) := by decide +kernel
theorem dX5_moveTent_103 : decode cX5_moveTent 103 = .ok (.iload_n 2, 1) := by decide +kernel
theorem dX5_moveTent_104 : decode cX5_moveTent 104 = .ok (.iload_n 3, 1) := by decide +kernel
theorem dX5_moveTent_105 : decode cX5_moveTent 105 = .ok (.invokevirtual 105, 3) := by decide +kernel
theorem dX5_moveTent_108 : decode cX5_moveTent 108 = .ok (.aload_n 0, 1) := by decide +kernel
theorem dX5_moveTent_109 : decode cX5_moveTent 109 = .ok (.getfield 12, 3) := by decide +kernel
theorem dX5_moveTent_112 : decode cX5_moveTent 112 = .ok (.getfield 81, 3) := by decide +kernel
theorem dX5_moveTent_115 : decode cX5_moveTent 115 = .ok (.iload 4, 2) := by decide +kernel
theorem dX5_moveTent_117 : decode cX5_moveTent 117 = .ok (.invokevirtual 109, 3) := by decide +kernel
theorem dX5_moveTent_120 : decode cX5_moveTent 120 = .ok (.ireturn, 1) := by decide +kernel
set_option maxRecDepth 20000 in
theorem ggX5_handOver_X5_isPoint : GoodIn wsX5_handOver wsX5_isPoint := goodIn_r _ [6] (by decide +kernel) (by decide +kernel)
set_option maxRecDepth 20000 in
theorem gX5_handOver_X5_isPoint : GoodIn wsX5_handOver (va_wsS RX5 40 yX5_isPoint wsX5_isPoint) := goodIn_app (goodIn_of _ (by decide +kernel)) ggX5_handOver_X5_isPoint
set_option maxRecDepth 20000 in
theorem ggX5_handOver_X0_isHere : GoodIn wsX5_handOver wsX0_isHere := goodIn_r _ [11, 12, 13, 14, 15, 16, 17, 18, 19, 164, 165, 166, 167, 168, 169, 170, 171, 172, 173, 174, 175, 176] (by decide +kernel) (by decide +kernel)
set_option maxRecDepth 20000 in
theorem gX5_handOver_X0_isHere : GoodIn wsX5_handOver (wsV RX5 70 RX0 yX0_isHere wsX0_isHere) := goodIn_app (goodIn_of _ (by decide +kernel)) ggX5_handOver_X0_isHere
set_option maxRecDepth 20000 in
theorem ggX5_handOver_X3_find : GoodIn wsX5_handOver wsX3_find := goodIn_r _ [24, 25, 26, 27, 28, 23, 29, 30, 31, 32, 33, 15, 16, 17, 18, 19, 34, 5, 35, 36, 37, 177, 178, 179, 180, 181, 176] (by decide +kernel) (by decide +kernel)
set_option maxRecDepth 20000 in
theorem gX5_handOver_X3_find : GoodIn wsX5_handOver (wsV RX5 85 RX3 yX3_find wsX3_find) := goodIn_app (goodIn_of _ (by decide +kernel)) ggX5_handOver_X3_find
set_option maxRecDepth 20000 in
theorem ggX5_handOver_X3_ownerOf : GoodIn wsX5_handOver wsX3_ownerOf := goodIn_r _ [41, 42, 33, 15, 16, 17, 18, 19, 177, 178, 179, 180, 181, 176] (by decide +kernel) (by decide +kernel)
set_option maxRecDepth 20000 in
theorem gX5_handOver_X3_ownerOf : GoodIn wsX5_handOver (wsV RX5 90 RX3 yX3_ownerOf wsX3_ownerOf) := goodIn_app (goodIn_of _ (by decide +kernel)) ggX5_handOver_X3_ownerOf
set_option maxRecDepth 20000 in
theorem ggX5_handOver_X0_isTentIn : GoodIn wsX5_handOver wsX0_isTentIn := goodIn_r _ [46, 47, 48, 49, 50, 8, 9, 10, 11, 12, 13, 14, 15, 16, 17, 18, 19, 51, 27, 28, 23, 29, 30, 31, 32, 33, 34, 5, 35, 36, 37, 164, 165, 166, 167, 168, 169, 170, 171, 172, 173, 174, 175, 176, 177, 178, 179, 180, 181] (by decide +kernel) (by decide +kernel)
set_option maxRecDepth 20000 in
theorem gX5_handOver_X0_isTentIn : GoodIn wsX5_handOver (wsV RX5 112 RX0 yX0_isTentIn wsX0_isTentIn) := goodIn_app (goodIn_of _ (by decide +kernel)) ggX5_handOver_X0_isTentIn
set_option maxRecDepth 20000 in
theorem ggX5_handOver_X3_ownersBeside : GoodIn wsX5_handOver wsX3_ownersBeside := goodIn_r _ [55, 25, 42, 56, 57, 58, 23, 59, 60, 61, 62, 63, 30, 33, 15, 16, 17, 18, 19, 64, 65, 66, 67, 32, 34, 5, 35, 68, 69, 70, 71, 31, 72, 73, 74, 75, 36, 37, 76, 77, 177, 178, 179, 180, 181, 176] (by decide +kernel) (by decide +kernel)
set_option maxRecDepth 20000 in
theorem gX5_handOver_X3_ownersBeside : GoodIn wsX5_handOver (wsV RX5 115 RX3 yX3_ownersBeside wsX3_ownersBeside) := goodIn_app (goodIn_of _ (by decide +kernel)) ggX5_handOver_X3_ownersBeside
set_option maxRecDepth 20000 in
theorem ggX5_handOver_X5_isMarked : GoodIn wsX5_handOver wsX5_isMarked := goodIn_r _ [80, 81, 76, 5, 77] (by decide +kernel) (by decide +kernel)
set_option maxRecDepth 20000 in
theorem gX5_handOver_X5_isMarked : GoodIn wsX5_handOver (va_wsS RX5 118 yX5_isMarked wsX5_isMarked) := goodIn_app (goodIn_of _ (by decide +kernel)) ggX5_handOver_X5_isMarked
set_option maxRecDepth 20000 in
theorem ggX5_handOver_X2_push : GoodIn wsX5_handOver wsX2_push := goodIn_r _ [86, 87, 88, 89, 90, 91, 92, 93, 94, 95, 85, 96, 97, 98, 99, 100, 10, 101, 12, 102, 103, 104, 105, 47, 48, 49, 13, 106, 107, 108, 109, 110, 111, 23, 112, 25, 30, 31, 32, 42, 113, 114, 115, 17, 116, 19, 117, 182, 183, 184, 164, 165, 166, 167, 168, 169, 170, 171, 172, 173, 174, 175, 177, 178, 179, 180, 181, 176] (by decide +kernel) (by decide +kernel)
set_option maxRecDepth 20000 in
theorem gX5_handOver_X2_push : GoodIn wsX5_handOver (wsV RX5 48 RX2 yX2_push wsX2_push) := goodIn_app (goodIn_of _ (by decide +kernel)) ggX5_handOver_X2_push
set_option maxRecDepth 20000 in
theorem ggX5_handOver_X0_passOn : GoodIn wsX5_handOver wsX0_passOn := goodIn_r _ [121, 47, 104, 122, 123, 124, 23, 125, 42, 126, 127, 128, 17, 129, 19, 130, 131, 132, 133, 32, 30, 31, 33, 15, 16, 18, 134, 5, 135, 136, 34, 35, 137, 138, 139, 36, 37, 140, 21, 22, 24, 25, 26, 27, 28, 29, 141, 39, 40, 41, 142, 143, 144, 145, 146, 147, 148, 149, 150, 151, 152, 153, 154, 155, 156, 157, 164, 165, 166, 167, 168, 169, 170, 171, 172, 173, 174, 175, 177, 178, 179, 180, 181, 176] (by decide +kernel) (by decide +kernel)
set_option maxRecDepth 20000 in
theorem gX5_handOver_X0_passOn : GoodIn wsX5_handOver (wsV RX5 121 RX0 yX0_passOn wsX0_passOn) := goodIn_app (goodIn_of _ (by decide +kernel)) ggX5_handOver_X0_passOn
theorem dX5_handOver_0 : decode cX5_handOver 0 = .ok (.iload_n 1, 1) := by decide +kernel
theorem dX5_handOver_1 : decode cX5_handOver 1 = .ok (.iload_n 2, 1) := by decide +kernel
theorem dX5_handOver_2 : decode cX5_handOver 2 = .ok (.invokestatic 40, 3) := by decide +kernel
theorem dX5_handOver_5 : decode cX5_handOver 5 = .ok (.ifCond .eq 14, 3) := by decide +kernel
theorem dX5_handOver_8 : decode cX5_handOver 8 = .ok (.aload_n 0, 1) := by decide +kernel
theorem dX5_handOver_9 : decode cX5_handOver 9 = .ok (.getfield 12, 3) := by decide +kernel
theorem dX5_handOver_12 : decode cX5_handOver 12 = .ok (.iload_n 3, 1) := by decide +kernel
theorem dX5_handOver_13 : decode cX5_handOver 13 = .ok (.invokevirtual 70, 3) := by decide +kernel
theorem dX5_handOver_16 : decode cX5_handOver 16 = .ok (.ifCond .ne 5, 3) := by decide +kernel
theorem dX5_handOver_19 : decode cX5_handOver 19 = .ok (.iconst (-1), 1) := by decide +kernel
theorem dX5_handOver_20 : decode cX5_handOver 20 = .ok (.ireturn, 1) := by decide +kernel
theorem dX5_handOver_21 : decode cX5_handOver 21 = .ok (.aload_n 0, 1) := by decide +kernel
theorem dX5_handOver_22 : decode cX5_handOver 22 = .ok (.getfield 12, 3) := by decide +kernel
theorem dX5_handOver_25 : decode cX5_handOver 25 = .ok (.getfield 81, 3) := by decide +kernel
theorem dX5_handOver_28 : decode cX5_handOver 28 = .ok (.iload_n 1, 1) := by decide +kernel
theorem dX5_handOver_29 : decode cX5_handOver 29 = .ok (.iload_n 2, 1) := by decide +kernel
theorem dX5_handOver_30 : decode cX5_handOver 30 = .ok (.invokevirtual 85, 3) := by decide +kernel
theorem dX5_handOver_33 : decode cX5_handOver 33 = .ok (.istore 4, 2) := by decide +kernel
theorem dX5_handOver_35 : decode cX5_handOver 35 = .ok (.aload_n 0, 1) := by decide +kernel
theorem dX5_handOver_36 : decode cX5_handOver 36 = .ok (.getfield 12, 3) := by decide +kernel
theorem dX5_handOver_39 : decode cX5_handOver 39 = .ok (.getfield 81, 3) := by decide +kernel
theorem dX5_handOver_42 : decode cX5_handOver 42 = .ok (.iload 4, 2) := by decide +kernel
theorem dX5_handOver_44 : decode cX5_handOver 44 = .ok (.invokevirtual 90, 3) := by decide +kernel
theorem dX5_handOver_47 : decode cX5_handOver 47 = .ok (.istore 5, 2) := by decide +kernel
theorem dX5_handOver_49 : decode cX5_handOver 49 = .ok (.aload_n 0, 1) := by decide +kernel
theorem dX5_handOver_50 : decode cX5_handOver 50 = .ok (.getfield 12, 3) := by decide +kernel
theorem dX5_handOver_53 : decode cX5_handOver 53 = .ok (.iload 4, 2) := by decide +kernel
theorem dX5_handOver_55 : decode cX5_handOver 55 = .ok (.iload 5, 2) := by decide +kernel
theorem dX5_handOver_57 : decode cX5_handOver 57 = .ok (.invokevirtual 112, 3) := by decide +kernel
theorem dX5_handOver_60 : decode cX5_handOver 60 = .ok (.ifCond .ne 22, 3) := by decide +kernel
theorem dX5_handOver_63 : decode cX5_handOver 63 = .ok (.aload_n 0, 1) := by decide +kernel
theorem dX5_handOver_64 : decode cX5_handOver 64 = .ok (.getfield 12, 3) := by decide +kernel
theorem dX5_handOver_67 : decode cX5_handOver 67 = .ok (.getfield 81, 3) := by decide +kernel
theorem dX5_handOver_70 : decode cX5_handOver 70 = .ok (.iload 4, 2) := by decide +kernel
theorem dX5_handOver_72 : decode cX5_handOver 72 = .ok (.invokevirtual 115, 3) := by decide +kernel
theorem dX5_handOver_75 : decode cX5_handOver 75 = .ok (.iload_n 3, 1) := by decide +kernel
theorem dX5_handOver_76 : decode cX5_handOver 76 = .ok (.invokestatic 118, 3) := by decide +kernel
theorem dX5_handOver_79 : decode cX5_handOver 79 = .ok (.ifCond .ne 6, 3) := by decide +kernel
theorem dX5_handOver_82 : decode cX5_handOver 82 = .ok (.bipush (-4), 2) := by decide +kernel
theorem dX5_handOver_84 : decode cX5_handOver 84 = .ok (.ireturn, 1) := by decide +kernel
theorem dX5_handOver_85 : decode cX5_handOver 85 = .ok (.iload 5, 2) := by decide +kernel
theorem dX5_handOver_87 : decode cX5_handOver 87 = .ok (.iload_n 3, 1) := by decide +kernel
theorem dX5_handOver_88 : decode cX5_handOver 88 = .ok (.if_icmp .ne 6, 3) := by decide +kernel
theorem dX5_handOver_91 : decode cX5_handOver 91 = .ok (.bipush (-5), 2) := by decide +kernel
theorem dX5_handOver_93 : decode cX5_handOver 93 = .ok (.ireturn, 1) := by decide +kernel
theorem dX5_handOver_94 : decode cX5_handOver 94 = .ok (.aload_n 0, 1) := by decide +kernel
theorem dX5_handOver_95 : decode cX5_handOver 95 = .ok (.getfield 25, 3) := by decide +kernel
theorem dX5_handOver_98 : decode cX5_handOver 98 = .ok (.aload_n 0, 1) := by decide +kernel
theorem dX5_handOver_99 : decode cX5_handOver 99 = .ok (.getfield 12, 3) := by decide +kernel
theorem dX5_handOver_102 : decode cX5_handOver 102 = .ok (.invokevirtual 48, 3) := by decide +kernel
theorem dX5_handOver_105 : decode cX5_handOver 105 = .ok (.aload_n 0, 1) := by decide +kernel
theorem dX5_handOver_106 : decode cX5_handOver 106 = .ok (.getfield 12, 3) := by decide +kernel
theorem dX5_handOver_109 : decode cX5_handOver 109 = .ok (.iload 4, 2) := by decide +kernel
theorem dX5_handOver_111 : decode cX5_handOver 111 = .ok (.iload_n 3, 1) := by decide +kernel
theorem dX5_handOver_112 : decode cX5_handOver 112 = .ok (.invokevirtual 121, 3) := by decide +kernel
theorem dX5_handOver_115 : decode cX5_handOver 115 = .ok (.iload 5, 2) := by decide +kernel
theorem dX5_handOver_117 : decode cX5_handOver 117 = .ok (.ireturn, 1) := by decide +kernel
set_option maxRecDepth 20000 in
theorem ggX5_lay_X5_isPoint : GoodIn wsX5_lay wsX5_isPoint := goodIn_r _ [6] (by decide +kernel) (by decide +kernel)
set_option maxRecDepth 20000 in
theorem gX5_lay_X5_isPoint : GoodIn wsX5_lay (va_wsS RX5 40 yX5_isPoint wsX5_isPoint) := goodIn_app (goodIn_of _ (by decide +kernel)) ggX5_lay_X5_isPoint
set_option maxRecDepth 20000 in
theorem ggX5_lay_X2_push : GoodIn wsX5_lay wsX2_push := goodIn_r _ [11, 12, 13, 14, 15, 16, 17, 18, 19, 20, 10, 21, 22, 23, 24, 25, 26, 27, 28, 29, 30, 31, 32, 33, 34, 35, 36, 37, 38, 39, 40, 41, 42, 43, 44, 45, 46, 47, 48, 49, 50, 51, 52, 53, 54, 55, 56, 87, 88, 89, 75, 76, 77, 78, 79, 80, 81, 82, 83, 84, 85, 86, 90, 91, 92, 93, 94, 95] (by decide +kernel) (by decide +kernel)
set_option maxRecDepth 20000 in
theorem gX5_lay_X2_push : GoodIn wsX5_lay (wsV RX5 48 RX2 yX2_push wsX2_push) := goodIn_app (goodIn_of _ (by decide +kernel)) ggX5_lay_X2_push
set_option maxRecDepth 20000 in
theorem ggX5_lay_X0_addSong : GoodIn wsX5_lay wsX0_addSong := goodIn_r _ [60, 29, 39, 61, 62, 63, 53, 64, 55, 65, 66, 67, 26, 68, 37, 38, 75, 76, 77, 78, 79, 80, 81, 82, 83, 84, 85, 86, 95] (by decide +kernel) (by decide +kernel)
set_option maxRecDepth 20000 in
theorem gX5_lay_X0_addSong : GoodIn wsX5_lay (wsV RX5 129 RX0 yX0_addSong wsX0_addSong) := goodIn_app (goodIn_of _ (by decide +kernel)) ggX5_lay_X0_addSong
theorem dX5_lay_0 : decode cX5_lay 0 = .ok (.iload_n 1, 1) := by decide +kernel
theorem dX5_lay_1 : decode cX5_lay 1 = .ok (.iload_n 2, 1) := by decide +kernel
theorem dX5_lay_2 : decode cX5_lay 2 = .ok (.invokestatic 40, 3) := by decide +kernel
theorem dX5_lay_5 : decode cX5_lay 5 = .ok (.ifCond .ne 5, 3) := by decide +kernel
theorem dX5_lay_8 : decode cX5_lay 8 = .ok (.iconst (-1), 1) := by decide +kernel
theorem dX5_lay_9 : decode cX5_lay 9 = .ok (.ireturn, 1) := by decide +kernel
theorem dX5_lay_10 : decode cX5_lay 10 = .ok (.iload_n 3, 1) := by decide +kernel
theorem dX5_lay_11 : decode cX5_lay 11 = .ok (.iconst 1, 1) := by decide +kernel
theorem dX5_lay_12 : decode cX5_lay 12 = .ok (.if_icmp .lt 10, 3) := by decide +kernel
theorem dX5_lay_15 : decode cX5_lay 15 = .ok (.iload_n 3, 1) := by decide +kernel
theorem dX5_lay_16 : decode cX5_lay 16 = .ok (.sipush 999, 3) := by decide +kernel
theorem dX5_lay_19 : decode cX5_lay 19 = .ok (.if_icmp .le 6, 3) := by decide +kernel
theorem dX5_lay_22 : decode cX5_lay 22 = .ok (.bipush (-2), 2) := by decide +kernel
theorem dX5_lay_24 : decode cX5_lay 24 = .ok (.ireturn, 1) := by decide +kernel
theorem dX5_lay_25 : decode cX5_lay 25 = .ok (.aload_n 0, 1) := by decide +kernel
theorem dX5_lay_26 : decode cX5_lay 26 = .ok (.getfield 12, 3) := by decide +kernel
theorem dX5_lay_29 : decode cX5_lay 29 = .ok (.getfield 125, 3) := by decide +kernel
theorem dX5_lay_32 : decode cX5_lay 32 = .ok (.bipush 20, 2) := by decide +kernel
theorem dX5_lay_34 : decode cX5_lay 34 = .ok (.if_icmp .lt 6, 3) := by decide +kernel
theorem dX5_lay_37 : decode cX5_lay 37 = .ok (.bipush (-3), 2) := by decide +kernel
theorem dX5_lay_39 : decode cX5_lay 39 = .ok (.ireturn, 1) := by decide +kernel
theorem dX5_lay_40 : decode cX5_lay 40 = .ok (.aload_n 0, 1) := by decide +kernel
theorem dX5_lay_41 : decode cX5_lay 41 = .ok (.getfield 25, 3) := by decide +kernel
theorem dX5_lay_44 : decode cX5_lay 44 = .ok (.aload_n 0, 1) := by decide +kernel
theorem dX5_lay_45 : decode cX5_lay 45 = .ok (.getfield 12, 3) := by decide +kernel
theorem dX5_lay_48 : decode cX5_lay 48 = .ok (.invokevirtual 48, 3) := by decide +kernel
theorem dX5_lay_51 : decode cX5_lay 51 = .ok (.aload_n 0, 1) := by decide +kernel
theorem dX5_lay_52 : decode cX5_lay 52 = .ok (.getfield 12, 3) := by decide +kernel
theorem dX5_lay_55 : decode cX5_lay 55 = .ok (.iload_n 1, 1) := by decide +kernel
theorem dX5_lay_56 : decode cX5_lay 56 = .ok (.iload_n 2, 1) := by decide +kernel
theorem dX5_lay_57 : decode cX5_lay 57 = .ok (.iload_n 3, 1) := by decide +kernel
theorem dX5_lay_58 : decode cX5_lay 58 = .ok (.invokevirtual 129, 3) := by decide +kernel
theorem dX5_lay_61 : decode cX5_lay 61 = .ok (.ireturn, 1) := by decide +kernel
set_option maxRecDepth 20000 in
theorem ggX5_carry_X0_isSong : GoodIn wsX5_carry wsX0_isSong := goodIn_r _ [7, 8, 105, 106, 107, 108, 109, 110, 111, 112, 113, 114, 115, 116] (by decide +kernel) (by decide +kernel)
set_option maxRecDepth 20000 in
theorem gX5_carry_X0_isSong : GoodIn wsX5_carry (wsV RX5 132 RX0 yX0_isSong wsX0_isSong) := goodIn_app (goodIn_of _ (by decide +kernel)) ggX5_carry_X0_isSong
set_option maxRecDepth 20000 in
theorem ggX5_carry_X5_isPoint : GoodIn wsX5_carry wsX5_isPoint := goodIn_r _ [12] (by decide +kernel) (by decide +kernel)
set_option maxRecDepth 20000 in
theorem gX5_carry_X5_isPoint : GoodIn wsX5_carry (va_wsS RX5 40 yX5_isPoint wsX5_isPoint) := goodIn_app (goodIn_of _ (by decide +kernel)) ggX5_carry_X5_isPoint
set_option maxRecDepth 20000 in
theorem ggX5_carry_X4_at : GoodIn wsX5_carry wsX4_at := goodIn_r _ [17, 18, 117] (by decide +kernel) (by decide +kernel)
set_option maxRecDepth 20000 in
theorem gX5_carry_X4_at : GoodIn wsX5_carry (wsV RX5 97 RX4 yX4_at wsX4_at) := goodIn_app (goodIn_of _ (by decide +kernel)) ggX5_carry_X4_at
set_option maxRecDepth 20000 in
theorem ggX5_carry_X2_push : GoodIn wsX5_carry wsX2_push := goodIn_r _ [23, 24, 25, 26, 27, 28, 29, 30, 31, 32, 22, 33, 34, 35, 36, 37, 6, 38, 39, 8, 40, 41, 42, 43, 44, 45, 46, 47, 48, 49, 50, 51, 52, 53, 54, 55, 56, 57, 58, 59, 60, 61, 62, 16, 63, 18, 64, 118, 119, 120, 105, 106, 107, 108, 109, 110, 111, 112, 113, 114, 115, 116, 121, 122, 123, 124, 125, 117] (by decide +kernel) (by decide +kernel)
set_option maxRecDepth 20000 in
theorem gX5_carry_X2_push : GoodIn wsX5_carry (wsV RX5 48 RX2 yX2_push wsX2_push) := goodIn_app (goodIn_of _ (by decide +kernel)) ggX5_carry_X2_push
set_option maxRecDepth 20000 in
theorem ggX5_carry_X0_putSong : GoodIn wsX5_carry wsX0_putSong := goodIn_r _ [68, 47, 48, 69, 70, 71, 16, 72, 18, 105, 106, 107, 108, 109, 110, 111, 112, 113, 114, 115, 116, 117] (by decide +kernel) (by decide +kernel)
set_option maxRecDepth 20000 in
theorem gX5_carry_X0_putSong : GoodIn wsX5_carry (wsV RX5 141 RX0 yX0_putSong wsX0_putSong) := goodIn_app (goodIn_of _ (by decide +kernel)) ggX5_carry_X0_putSong
set_option maxRecDepth 20000 in
theorem ggX5_carry_X5_toldOwnerOf : GoodIn wsX5_carry wsX5_toldOwnerOf := goodIn_r _ [76, 1, 77, 78, 79, 6, 80, 43, 47, 48, 81, 14, 15, 16, 17, 18, 82, 83, 84, 53, 85, 59, 86, 87, 88, 89, 55, 90, 91, 92, 93, 56, 57, 58, 94, 95, 11, 96, 97, 98, 99, 100, 101, 102, 103, 104, 105, 106, 107, 108, 109, 110, 111, 112, 113, 114, 115, 116, 117, 121, 122, 123, 124, 125] (by decide +kernel) (by decide +kernel)
set_option maxRecDepth 20000 in
theorem gX5_carry_X5_toldOwnerOf : GoodIn wsX5_carry (wsV RX5 144 RX5 yX5_toldOwnerOf wsX5_toldOwnerOf) := goodIn_app (goodIn_of _ (by decide +kernel)) ggX5_carry_X5_toldOwnerOf
theorem dX5_carry_0 : decode cX5_carry 0 = .ok (.aload_n 0, 1) := by decide +kernel
theorem dX5_carry_1 : decode cX5_carry 1 = .ok (.getfield 12, 3) := by decide +kernel
theorem dX5_carry_4 : decode cX5_carry 4 = .ok (.iload_n 1, 1) := by decide +kernel
theorem dX5_carry_5 : decode cX5_carry 5 = .ok (.invokevirtual 132, 3) := by decide +kernel
theorem dX5_carry_8 : decode cX5_carry 8 = .ok (.ifCond .eq 11, 3) := by decide +kernel
theorem dX5_carry_11 : decode cX5_carry 11 = .ok (.iload_n 2, 1) := by decide +kernel
theorem dX5_carry_12 : decode cX5_carry 12 = .ok (.iload_n 3, 1) := by decide +kernel
theorem dX5_carry_13 : decode cX5_carry 13 = .ok (.invokestatic 40, 3) := by decide +kernel
theorem dX5_carry_16 : decode cX5_carry 16 = .ok (.ifCond .ne 5, 3) := by decide +kernel
theorem dX5_carry_19 : decode cX5_carry 19 = .ok (.iconst (-1), 1) := by decide +kernel
theorem dX5_carry_20 : decode cX5_carry 20 = .ok (.ireturn, 1) := by decide +kernel
theorem dX5_carry_21 : decode cX5_carry 21 = .ok (.aload_n 0, 1) := by decide +kernel
theorem dX5_carry_22 : decode cX5_carry 22 = .ok (.getfield 12, 3) := by decide +kernel
theorem dX5_carry_25 : decode cX5_carry 25 = .ok (.getfield 135, 3) := by decide +kernel
theorem dX5_carry_28 : decode cX5_carry 28 = .ok (.iload_n 1, 1) := by decide +kernel
theorem dX5_carry_29 : decode cX5_carry 29 = .ok (.invokevirtual 97, 3) := by decide +kernel
theorem dX5_carry_32 : decode cX5_carry 32 = .ok (.iload_n 2, 1) := by decide +kernel
theorem dX5_carry_33 : decode cX5_carry 33 = .ok (.if_icmp .ne 21, 3) := by decide +kernel
theorem dX5_carry_36 : decode cX5_carry 36 = .ok (.aload_n 0, 1) := by decide +kernel
theorem dX5_carry_37 : decode cX5_carry 37 = .ok (.getfield 12, 3) := by decide +kernel
theorem dX5_carry_40 : decode cX5_carry 40 = .ok (.getfield 138, 3) := by decide +kernel
theorem dX5_carry_43 : decode cX5_carry 43 = .ok (.iload_n 1, 1) := by decide +kernel
theorem dX5_carry_44 : decode cX5_carry 44 = .ok (.invokevirtual 97, 3) := by decide +kernel
theorem dX5_carry_47 : decode cX5_carry 47 = .ok (.iload_n 3, 1) := by decide +kernel
theorem dX5_carry_48 : decode cX5_carry 48 = .ok (.if_icmp .ne 6, 3) := by decide +kernel
theorem dX5_carry_51 : decode cX5_carry 51 = .ok (.bipush (-5), 2) := by decide +kernel
theorem dX5_carry_53 : decode cX5_carry 53 = .ok (.ireturn, 1) := by decide +kernel
theorem dX5_carry_54 : decode cX5_carry 54 = .ok (.aload_n 0, 1) := by decide +kernel
theorem dX5_carry_55 : decode cX5_carry 55 = .ok (.getfield 25, 3) := by decide +kernel
theorem dX5_carry_58 : decode cX5_carry 58 = .ok (.aload_n 0, 1) := by decide +kernel
theorem dX5_carry_59 : decode cX5_carry 59 = .ok (.getfield 12, 3) := by decide +kernel
theorem dX5_carry_62 : decode cX5_carry 62 = .ok (.invokevirtual 48, 3) := by decide +kernel
theorem dX5_carry_65 : decode cX5_carry 65 = .ok (.aload_n 0, 1) := by decide +kernel
theorem dX5_carry_66 : decode cX5_carry 66 = .ok (.getfield 12, 3) := by decide +kernel
theorem dX5_carry_69 : decode cX5_carry 69 = .ok (.iload_n 1, 1) := by decide +kernel
theorem dX5_carry_70 : decode cX5_carry 70 = .ok (.iload_n 2, 1) := by decide +kernel
theorem dX5_carry_71 : decode cX5_carry 71 = .ok (.iload_n 3, 1) := by decide +kernel
theorem dX5_carry_72 : decode cX5_carry 72 = .ok (.invokevirtual 141, 3) := by decide +kernel
theorem dX5_carry_75 : decode cX5_carry 75 = .ok (.aload_n 0, 1) := by decide +kernel
theorem dX5_carry_76 : decode cX5_carry 76 = .ok (.iload_n 1, 1) := by decide +kernel
theorem dX5_carry_77 : decode cX5_carry 77 = .ok (.invokevirtual 144, 3) := by decide +kernel
theorem dX5_carry_80 : decode cX5_carry 80 = .ok (.ireturn, 1) := by decide +kernel
set_option maxRecDepth 20000 in
theorem ggX5_type_X1_append : GoodIn wsX5_type wsX1_append := goodIn_r _ [6, 7, 8, 15, 16] (by decide +kernel) (by decide +kernel)
set_option maxRecDepth 20000 in
theorem gX5_type_X1_append : GoodIn wsX5_type (wsV RX5 147 RX1 yX1_append wsX1_append) := goodIn_app (goodIn_of _ (by decide +kernel)) ggX5_type_X1_append
theorem dX5_type_0 : decode cX5_type 0 = .ok (.aload_n 0, 1) := by decide +kernel
theorem dX5_type_1 : decode cX5_type 1 = .ok (.getfield 32, 3) := by decide +kernel
theorem dX5_type_4 : decode cX5_type 4 = .ok (.iload_n 1, 1) := by decide +kernel
theorem dX5_type_5 : decode cX5_type 5 = .ok (.invokevirtual 147, 3) := by decide +kernel
theorem dX5_type_8 : decode cX5_type 8 = .ok (.ifCond .eq 13, 3) := by decide +kernel
theorem dX5_type_11 : decode cX5_type 11 = .ok (.aload_n 0, 1) := by decide +kernel
theorem dX5_type_12 : decode cX5_type 12 = .ok (.getfield 32, 3) := by decide +kernel
theorem dX5_type_15 : decode cX5_type 15 = .ok (.getfield 151, 3) := by decide +kernel
theorem dX5_type_18 : decode cX5_type 18 = .ok (.goto 5, 3) := by decide +kernel
theorem dX5_type_21 : decode cX5_type 21 = .ok (.bipush (-3), 2) := by decide +kernel
theorem dX5_type_23 : decode cX5_type 23 = .ok (.ireturn, 1) := by decide +kernel
theorem dX5_clearText_0 : decode cX5_clearText 0 = .ok (.aload_n 0, 1) := by decide +kernel
theorem dX5_clearText_1 : decode cX5_clearText 1 = .ok (.getfield 32, 3) := by decide +kernel
theorem dX5_clearText_4 : decode cX5_clearText 4 = .ok (.getfield 151, 3) := by decide +kernel
theorem dX5_clearText_7 : decode cX5_clearText 7 = .ok (.istore_n 1, 1) := by decide +kernel
theorem dX5_clearText_8 : decode cX5_clearText 8 = .ok (.aload_n 0, 1) := by decide +kernel
theorem dX5_clearText_9 : decode cX5_clearText 9 = .ok (.getfield 32, 3) := by decide +kernel
theorem dX5_clearText_12 : decode cX5_clearText 12 = .ok (.iconst 0, 1) := by decide +kernel
theorem dX5_clearText_13 : decode cX5_clearText 13 = .ok (.putfield 151, 3) := by decide +kernel
theorem dX5_clearText_16 : decode cX5_clearText 16 = .ok (.iload_n 1, 1) := by decide +kernel
theorem dX5_clearText_17 : decode cX5_clearText 17 = .ok (.ireturn, 1) := by decide +kernel
set_option maxRecDepth 20000 in
theorem ggX5_undo_X2_pop : GoodIn wsX5_undo wsX2_pop := goodIn_r _ [7, 8, 9, 10, 11, 12, 6, 13, 14, 15, 16, 17, 18, 19, 20, 21, 22, 23, 24, 25, 26, 27, 28, 29, 30, 31, 32, 33, 34, 35, 36, 37, 38, 39, 40, 41, 42, 43, 44, 45, 46, 47, 48, 55, 56, 57, 58, 59, 60, 61, 62, 63, 64, 65, 66, 67, 68, 69, 70, 71, 72, 73, 74, 75] (by decide +kernel) (by decide +kernel)
set_option maxRecDepth 20000 in
theorem gX5_undo_X2_pop : GoodIn wsX5_undo (wsV RX5 157 RX2 yX2_pop wsX2_pop) := goodIn_app (goodIn_of _ (by decide +kernel)) ggX5_undo_X2_pop
theorem dX5_undo_0 : decode cX5_undo 0 = .ok (.aload_n 0, 1) := by decide +kernel
theorem dX5_undo_1 : decode cX5_undo 1 = .ok (.getfield 25, 3) := by decide +kernel
theorem dX5_undo_4 : decode cX5_undo 4 = .ok (.getfield 154, 3) := by decide +kernel
theorem dX5_undo_7 : decode cX5_undo 7 = .ok (.ifCond .ne 6, 3) := by decide +kernel
theorem dX5_undo_10 : decode cX5_undo 10 = .ok (.bipush (-5), 2) := by decide +kernel
theorem dX5_undo_12 : decode cX5_undo 12 = .ok (.ireturn, 1) := by decide +kernel
theorem dX5_undo_13 : decode cX5_undo 13 = .ok (.aload_n 0, 1) := by decide +kernel
theorem dX5_undo_14 : decode cX5_undo 14 = .ok (.getfield 25, 3) := by decide +kernel
theorem dX5_undo_17 : decode cX5_undo 17 = .ok (.aload_n 0, 1) := by decide +kernel
theorem dX5_undo_18 : decode cX5_undo 18 = .ok (.getfield 12, 3) := by decide +kernel
theorem dX5_undo_21 : decode cX5_undo 21 = .ok (.invokevirtual 157, 3) := by decide +kernel
theorem dX5_undo_24 : decode cX5_undo 24 = .ok (.aload_n 0, 1) := by decide +kernel
theorem dX5_undo_25 : decode cX5_undo 25 = .ok (.getfield 25, 3) := by decide +kernel
theorem dX5_undo_28 : decode cX5_undo 28 = .ok (.getfield 154, 3) := by decide +kernel
theorem dX5_undo_31 : decode cX5_undo 31 = .ok (.ireturn, 1) := by decide +kernel
set_option maxRecDepth 20000 in
theorem ggX5_keep_X0_copyFrom : GoodIn wsX5_keep wsX0_copyFrom := goodIn_r _ [8, 9, 10, 11, 12, 13, 14, 15, 16, 17, 18, 19, 20, 21, 22, 23, 24, 25, 26, 27, 28, 29, 30, 31, 32, 33, 34, 35, 36, 37, 52, 53, 54, 55, 56, 57, 58, 59, 60, 61, 62, 63, 64, 65, 66, 67, 68, 69] (by decide +kernel) (by decide +kernel)
set_option maxRecDepth 20000 in
theorem gX5_keep_X0_copyFrom : GoodIn wsX5_keep (wsV RX5 60 RX0 yX0_copyFrom wsX0_copyFrom) := goodIn_app (goodIn_of _ (by decide +kernel)) ggX5_keep_X0_copyFrom
set_option maxRecDepth 20000 in
theorem ggX5_keep_X0_campersHere : GoodIn wsX5_keep wsX0_campersHere := goodIn_r _ [41, 9, 17, 42, 43, 44, 34, 45, 36, 52, 53, 54, 55, 56, 57, 58, 59, 60, 61, 62, 63, 69] (by decide +kernel) (by decide +kernel)
set_option maxRecDepth 20000 in
theorem gX5_keep_X0_campersHere : GoodIn wsX5_keep (wsV RX5 78 RX0 yX0_campersHere wsX0_campersHere) := goodIn_app (goodIn_of _ (by decide +kernel)) ggX5_keep_X0_campersHere
theorem dX5_keep_0 : decode cX5_keep 0 = .ok (.aload_n 0, 1) := by decide +kernel
theorem dX5_keep_1 : decode cX5_keep 1 = .ok (.getfield 19, 3) := by decide +kernel
theorem dX5_keep_4 : decode cX5_keep 4 = .ok (.aload_n 0, 1) := by decide +kernel
theorem dX5_keep_5 : decode cX5_keep 5 = .ok (.getfield 12, 3) := by decide +kernel
theorem dX5_keep_8 : decode cX5_keep 8 = .ok (.invokevirtual 60, 3) := by decide +kernel
theorem dX5_keep_11 : decode cX5_keep 11 = .ok (.aload_n 0, 1) := by decide +kernel
theorem dX5_keep_12 : decode cX5_keep 12 = .ok (.iconst 1, 1) := by decide +kernel
theorem dX5_keep_13 : decode cX5_keep 13 = .ok (.putfield 36, 3) := by decide +kernel
theorem dX5_keep_16 : decode cX5_keep 16 = .ok (.aload_n 0, 1) := by decide +kernel
theorem dX5_keep_17 : decode cX5_keep 17 = .ok (.getfield 12, 3) := by decide +kernel
theorem dX5_keep_20 : decode cX5_keep 20 = .ok (.invokevirtual 78, 3) := by decide +kernel
theorem dX5_keep_23 : decode cX5_keep 23 = .ok (.ireturn, 1) := by decide +kernel
set_option maxRecDepth 20000 in
theorem ggX5_restore_X2_push : GoodIn wsX5_restore wsX2_push := goodIn_r _ [9, 10, 11, 12, 13, 14, 15, 16, 17, 18, 8, 19, 20, 21, 22, 23, 24, 25, 26, 27, 28, 29, 30, 31, 32, 33, 34, 35, 36, 37, 38, 39, 40, 41, 42, 43, 44, 45, 46, 47, 48, 49, 50, 51, 52, 53, 54, 70, 71, 72, 73, 74, 75, 76, 77, 78, 79, 80, 81, 82, 83, 84, 85, 86, 87, 88, 89, 90] (by decide +kernel) (by decide +kernel)
set_option maxRecDepth 20000 in
theorem gX5_restore_X2_push : GoodIn wsX5_restore (wsV RX5 48 RX2 yX2_push wsX2_push) := goodIn_app (goodIn_of _ (by decide +kernel)) ggX5_restore_X2_push
set_option maxRecDepth 20000 in
theorem ggX5_restore_X0_copyFrom : GoodIn wsX5_restore wsX0_copyFrom := goodIn_r _ [25, 26, 27, 28, 29, 30, 31, 32, 33, 34, 35, 36, 37, 38, 39, 40, 41, 42, 43, 44, 45, 46, 47, 48, 49, 50, 51, 52, 53, 54, 73, 74, 75, 76, 77, 78, 79, 80, 81, 82, 83, 84, 85, 86, 87, 88, 89, 90] (by decide +kernel) (by decide +kernel)
set_option maxRecDepth 20000 in
theorem gX5_restore_X0_copyFrom : GoodIn wsX5_restore (wsV RX5 60 RX0 yX0_copyFrom wsX0_copyFrom) := goodIn_app (goodIn_of _ (by decide +kernel)) ggX5_restore_X0_copyFrom
set_option maxRecDepth 20000 in
theorem ggX5_restore_X0_campersHere : GoodIn wsX5_restore wsX0_campersHere := goodIn_r _ [59, 26, 34, 60, 61, 62, 51, 63, 53, 73, 74, 75, 76, 77, 78, 79, 80, 81, 82, 83, 84, 90] (by decide +kernel) (by decide +kernel)
set_option maxRecDepth 20000 in
theorem gX5_restore_X0_campersHere : GoodIn wsX5_restore (wsV RX5 78 RX0 yX0_campersHere wsX0_campersHere) := goodIn_app (goodIn_of _ (by decide +kernel)) ggX5_restore_X0_campersHere
theorem dX5_restore_0 : decode cX5_restore 0 = .ok (.aload_n 0, 1) := by decide +kernel
theorem dX5_restore_1 : decode cX5_restore 1 = .ok (.getfield 36, 3) := by decide +kernel
theorem dX5_restore_4 : decode cX5_restore 4 = .ok (.ifCond .ne 6, 3) := by decide +kernel
theorem dX5_restore_7 : decode cX5_restore 7 = .ok (.bipush (-5), 2) := by decide +kernel
theorem dX5_restore_9 : decode cX5_restore 9 = .ok (.ireturn, 1) := by decide +kernel
theorem dX5_restore_10 : decode cX5_restore 10 = .ok (.aload_n 0, 1) := by decide +kernel
theorem dX5_restore_11 : decode cX5_restore 11 = .ok (.getfield 25, 3) := by decide +kernel
theorem dX5_restore_14 : decode cX5_restore 14 = .ok (.aload_n 0, 1) := by decide +kernel
theorem dX5_restore_15 : decode cX5_restore 15 = .ok (.getfield 12, 3) := by decide +kernel
theorem dX5_restore_18 : decode cX5_restore 18 = .ok (.invokevirtual 48, 3) := by decide +kernel
theorem dX5_restore_21 : decode cX5_restore 21 = .ok (.aload_n 0, 1) := by decide +kernel
theorem dX5_restore_22 : decode cX5_restore 22 = .ok (.getfield 12, 3) := by decide +kernel
theorem dX5_restore_25 : decode cX5_restore 25 = .ok (.aload_n 0, 1) := by decide +kernel
theorem dX5_restore_26 : decode cX5_restore 26 = .ok (.getfield 19, 3) := by decide +kernel
theorem dX5_restore_29 : decode cX5_restore 29 = .ok (.invokevirtual 60, 3) := by decide +kernel
theorem dX5_restore_32 : decode cX5_restore 32 = .ok (.aload_n 0, 1) := by decide +kernel
theorem dX5_restore_33 : decode cX5_restore 33 = .ok (.getfield 12, 3) := by decide +kernel
theorem dX5_restore_36 : decode cX5_restore 36 = .ok (.invokevirtual 78, 3) := by decide +kernel
theorem dX5_restore_39 : decode cX5_restore 39 = .ok (.ireturn, 1) := by decide +kernel
set_option maxRecDepth 20000 in
theorem ggX5_plot_X5_isPoint : GoodIn wsX5_plot wsX5_isPoint := goodIn_r _ [5] (by decide +kernel) (by decide +kernel)
set_option maxRecDepth 20000 in
theorem gX5_plot_X5_isPoint : GoodIn wsX5_plot (va_wsS RX5 40 yX5_isPoint wsX5_isPoint) := goodIn_app (goodIn_of _ (by decide +kernel)) ggX5_plot_X5_isPoint
set_option maxRecDepth 20000 in
theorem ggX5_plot_X3_find : GoodIn wsX5_plot wsX3_find := goodIn_r _ [10, 11, 12, 13, 14, 9, 15, 16, 17, 18, 19, 20, 21, 22, 23, 24, 25, 4, 26, 27, 28, 87, 88, 89, 90, 91, 92] (by decide +kernel) (by decide +kernel)
set_option maxRecDepth 20000 in
theorem gX5_plot_X3_find : GoodIn wsX5_plot (wsV RX5 85 RX3 yX3_find wsX3_find) := goodIn_app (goodIn_of _ (by decide +kernel)) ggX5_plot_X3_find
set_option maxRecDepth 20000 in
theorem ggX5_plot_X3_ownerOf : GoodIn wsX5_plot wsX3_ownerOf := goodIn_r _ [32, 33, 19, 20, 21, 22, 23, 24, 87, 88, 89, 90, 91, 92] (by decide +kernel) (by decide +kernel)
set_option maxRecDepth 20000 in
theorem gX5_plot_X3_ownerOf : GoodIn wsX5_plot (wsV RX5 90 RX3 yX3_ownerOf wsX3_ownerOf) := goodIn_app (goodIn_of _ (by decide +kernel)) ggX5_plot_X3_ownerOf
set_option maxRecDepth 20000 in
theorem ggX5_plot_X5_orNone : GoodIn wsX5_plot wsX5_orNone := goodIn_r _ [36] (by decide +kernel) (by decide +kernel)
set_option maxRecDepth 20000 in
theorem gX5_plot_X5_orNone : GoodIn wsX5_plot (va_wsS RX5 160 yX5_orNone wsX5_orNone) := goodIn_app (goodIn_of _ (by decide +kernel)) ggX5_plot_X5_orNone
set_option maxRecDepth 20000 in
theorem ggX5_plot_X3_depthOf : GoodIn wsX5_plot wsX3_depthOf := goodIn_r _ [40, 18, 19, 20, 21, 22, 23, 24, 87, 88, 89, 90, 91, 92] (by decide +kernel) (by decide +kernel)
set_option maxRecDepth 20000 in
theorem gX5_plot_X3_depthOf : GoodIn wsX5_plot (wsV RX5 109 RX3 yX3_depthOf wsX3_depthOf) := goodIn_app (goodIn_of _ (by decide +kernel)) ggX5_plot_X3_depthOf
set_option maxRecDepth 20000 in
theorem ggX5_plot_X3_x0Of : GoodIn wsX5_plot wsX3_x0Of := goodIn_r _ [44, 16, 19, 20, 21, 22, 23, 24, 87, 88, 89, 90, 91, 92] (by decide +kernel) (by decide +kernel)
set_option maxRecDepth 20000 in
theorem gX5_plot_X3_x0Of : GoodIn wsX5_plot (wsV RX5 163 RX3 yX3_x0Of wsX3_x0Of) := goodIn_app (goodIn_of _ (by decide +kernel)) ggX5_plot_X3_x0Of
set_option maxRecDepth 20000 in
theorem ggX5_plot_X3_y0Of : GoodIn wsX5_plot wsX3_y0Of := goodIn_r _ [48, 17, 19, 20, 21, 22, 23, 24, 87, 88, 89, 90, 91, 92] (by decide +kernel) (by decide +kernel)
set_option maxRecDepth 20000 in
theorem gX5_plot_X3_y0Of : GoodIn wsX5_plot (wsV RX5 166 RX3 yX3_y0Of wsX3_y0Of) := goodIn_app (goodIn_of _ (by decide +kernel)) ggX5_plot_X3_y0Of
set_option maxRecDepth 20000 in
theorem ggX5_plot_X3_x1Of : GoodIn wsX5_plot wsX3_x1Of := goodIn_r _ [52, 16, 18, 19, 20, 21, 22, 23, 24, 25, 4, 26, 87, 88, 89, 90, 91, 92] (by decide +kernel) (by decide +kernel)
set_option maxRecDepth 20000 in
theorem gX5_plot_X3_x1Of : GoodIn wsX5_plot (wsV RX5 169 RX3 yX3_x1Of wsX3_x1Of) := goodIn_app (goodIn_of _ (by decide +kernel)) ggX5_plot_X3_x1Of
set_option maxRecDepth 20000 in
theorem ggX5_plot_X3_y1Of : GoodIn wsX5_plot wsX3_y1Of := goodIn_r _ [56, 17, 18, 19, 20, 21, 22, 23, 24, 27, 4, 28, 87, 88, 89, 90, 91, 92] (by decide +kernel) (by decide +kernel)
set_option maxRecDepth 20000 in
theorem gX5_plot_X3_y1Of : GoodIn wsX5_plot (wsV RX5 172 RX3 yX3_y1Of wsX3_y1Of) := goodIn_app (goodIn_of _ (by decide +kernel)) ggX5_plot_X3_y1Of
set_option maxRecDepth 20000 in
theorem ggX5_plot_X3_manyBeside : GoodIn wsX5_plot wsX3_manyBeside := goodIn_r _ [60, 11, 61, 62, 63, 9, 64, 65, 42, 43, 44, 16, 19, 20, 21, 22, 23, 24, 66, 50, 51, 52, 18, 25, 4, 26, 67, 46, 47, 48, 17, 68, 54, 55, 56, 27, 28, 87, 88, 89, 90, 91, 92] (by decide +kernel) (by decide +kernel)
set_option maxRecDepth 20000 in
theorem gX5_plot_X3_manyBeside : GoodIn wsX5_plot (wsV RX5 175 RX3 yX3_manyBeside wsX3_manyBeside) := goodIn_app (goodIn_of _ (by decide +kernel)) ggX5_plot_X3_manyBeside
theorem dX5_plot_0 : decode cX5_plot 0 = .ok (.iload_n 1, 1) := by decide +kernel
theorem dX5_plot_1 : decode cX5_plot 1 = .ok (.iload_n 2, 1) := by decide +kernel
theorem dX5_plot_2 : decode cX5_plot 2 = .ok (.invokestatic 40, 3) := by decide +kernel
theorem dX5_plot_5 : decode cX5_plot 5 = .ok (.ifCond .ne 5, 3) := by decide +kernel
theorem dX5_plot_8 : decode cX5_plot 8 = .ok (.iconst (-1), 1) := by decide +kernel
theorem dX5_plot_9 : decode cX5_plot 9 = .ok (.ireturn, 1) := by decide +kernel
theorem dX5_plot_10 : decode cX5_plot 10 = .ok (.aload_n 0, 1) := by decide +kernel
theorem dX5_plot_11 : decode cX5_plot 11 = .ok (.getfield 12, 3) := by decide +kernel
theorem dX5_plot_14 : decode cX5_plot 14 = .ok (.getfield 81, 3) := by decide +kernel
theorem dX5_plot_17 : decode cX5_plot 17 = .ok (.astore 4, 2) := by decide +kernel
theorem dX5_plot_19 : decode cX5_plot 19 = .ok (.aload 4, 2) := by decide +kernel
theorem dX5_plot_21 : decode cX5_plot 21 = .ok (.iload_n 1, 1) := by decide +kernel
theorem dX5_plot_22 : decode cX5_plot 22 = .ok (.iload_n 2, 1) := by decide +kernel
theorem dX5_plot_23 : decode cX5_plot 23 = .ok (.invokevirtual 85, 3) := by decide +kernel
theorem dX5_plot_26 : decode cX5_plot 26 = .ok (.istore 5, 2) := by decide +kernel
theorem dX5_plot_28 : decode cX5_plot 28 = .ok (.iload_n 3, 1) := by decide +kernel
theorem dX5_plot_29 : decode cX5_plot 29 = .ok (.tableswitch 102 0 6 #[43, 54, 62, 70, 78, 86, 94], 43) := by decide +kernel
theorem dX5_plot_72 : decode cX5_plot 72 = .ok (.aload 4, 2) := by decide +kernel
theorem dX5_plot_74 : decode cX5_plot 74 = .ok (.iload 5, 2) := by decide +kernel
theorem dX5_plot_76 : decode cX5_plot 76 = .ok (.invokevirtual 90, 3) := by decide +kernel
theorem dX5_plot_79 : decode cX5_plot 79 = .ok (.invokestatic 160, 3) := by decide +kernel
theorem dX5_plot_82 : decode cX5_plot 82 = .ok (.ireturn, 1) := by decide +kernel
theorem dX5_plot_83 : decode cX5_plot 83 = .ok (.aload 4, 2) := by decide +kernel
theorem dX5_plot_85 : decode cX5_plot 85 = .ok (.iload 5, 2) := by decide +kernel
theorem dX5_plot_87 : decode cX5_plot 87 = .ok (.invokevirtual 109, 3) := by decide +kernel
theorem dX5_plot_90 : decode cX5_plot 90 = .ok (.ireturn, 1) := by decide +kernel
theorem dX5_plot_91 : decode cX5_plot 91 = .ok (.aload 4, 2) := by decide +kernel
theorem dX5_plot_93 : decode cX5_plot 93 = .ok (.iload 5, 2) := by decide +kernel
theorem dX5_plot_95 : decode cX5_plot 95 = .ok (.invokevirtual 163, 3) := by decide +kernel
theorem dX5_plot_98 : decode cX5_plot 98 = .ok (.ireturn, 1) := by decide +kernel
theorem dX5_plot_99 : decode cX5_plot 99 = .ok (.aload 4, 2) := by decide +kernel
theorem dX5_plot_101 : decode cX5_plot 101 = .ok (.iload 5, 2) := by decide +kernel
theorem dX5_plot_103 : decode cX5_plot 103 = .ok (.invokevirtual 166, 3) := by decide +kernel
theorem dX5_plot_106 : decode cX5_plot 106 = .ok (.ireturn, 1) := by decide +kernel
theorem dX5_plot_107 : decode cX5_plot 107 = .ok (.aload 4, 2) := by decide +kernel
theorem dX5_plot_109 : decode cX5_plot 109 = .ok (.iload 5, 2) := by decide +kernel
theorem dX5_plot_111 : decode cX5_plot 111 = .ok (.invokevirtual 169, 3) := by decide +kernel
theorem dX5_plot_114 : decode cX5_plot 114 = .ok (.ireturn, 1) := by decide +kernel
theorem dX5_plot_115 : decode cX5_plot 115 = .ok (.aload 4, 2) := by decide +kernel
theorem dX5_plot_117 : decode cX5_plot 117 = .ok (.iload 5, 2) := by decide +kernel
theorem dX5_plot_119 : decode cX5_plot 119 = .ok (.invokevirtual 172, 3) := by decide +kernel
theorem dX5_plot_122 : decode cX5_plot 122 = .ok (.ireturn, 1) := by decide +kernel
theorem dX5_plot_123 : decode cX5_plot 123 = .ok (.aload 4, 2) := by decide +kernel
theorem dX5_plot_125 : decode cX5_plot 125 = .ok (.iload 5, 2) := by decide +kernel
theorem dX5_plot_127 : decode cX5_plot 127 = .ok (.invokevirtual 175, 3) := by decide +kernel
theorem dX5_plot_130 : decode cX5_plot 130 = .ok (.ireturn, 1) := by decide +kernel
theorem dX5_plot_131 : decode cX5_plot 131 = .ok (.bipush (-2), 2) := by decide +kernel
theorem dX5_plot_133 : decode cX5_plot 133 = .ok (.ireturn, 1) := by decide +kernel
set_option maxRecDepth 20000 in
theorem ggX5_camper_X0_isHere : GoodIn wsX5_camper wsX0_isHere := goodIn_r _ [6, 7, 8, 9, 10, 11, 12, 13, 14, 117, 118, 119, 120, 121, 122, 123, 124, 125, 126, 127, 128, 129] (by decide +kernel) (by decide +kernel)
set_option maxRecDepth 20000 in
theorem gX5_camper_X0_isHere : GoodIn wsX5_camper (wsV RX5 70 RX0 yX0_isHere wsX0_isHere) := goodIn_app (goodIn_of _ (by decide +kernel)) ggX5_camper_X0_isHere
set_option maxRecDepth 20000 in
theorem ggX5_camper_X4_at : GoodIn wsX5_camper wsX4_at := goodIn_r _ [13, 14, 129] (by decide +kernel) (by decide +kernel)
set_option maxRecDepth 20000 in
theorem gX5_camper_X4_at : GoodIn wsX5_camper (wsV RX5 97 RX4 yX4_at wsX4_at) := goodIn_app (goodIn_of _ (by decide +kernel)) ggX5_camper_X4_at
set_option maxRecDepth 20000 in
theorem ggX5_camper_X3_manyOf : GoodIn wsX5_camper wsX3_manyOf := goodIn_r _ [20, 21, 22, 23, 10, 11, 12, 13, 14, 130, 131, 132, 133, 134, 129] (by decide +kernel) (by decide +kernel)
set_option maxRecDepth 20000 in
theorem gX5_camper_X3_manyOf : GoodIn wsX5_camper (wsV RX5 178 RX3 yX3_manyOf wsX3_manyOf) := goodIn_app (goodIn_of _ (by decide +kernel)) ggX5_camper_X3_manyOf
set_option maxRecDepth 20000 in
theorem ggX5_camper_X3_pointsOf : GoodIn wsX5_camper wsX3_pointsOf := goodIn_r _ [27, 21, 22, 28, 23, 10, 11, 12, 13, 14, 29, 30, 31, 32, 33, 130, 131, 132, 133, 134, 129] (by decide +kernel) (by decide +kernel)
set_option maxRecDepth 20000 in
theorem gX5_camper_X3_pointsOf : GoodIn wsX5_camper (wsV RX5 181 RX3 yX3_pointsOf wsX3_pointsOf) := goodIn_app (goodIn_of _ (by decide +kernel)) ggX5_camper_X3_pointsOf
set_option maxRecDepth 20000 in
theorem ggX5_camper_X0_songsOf : GoodIn wsX5_camper wsX0_songsOf := goodIn_r _ [37, 38, 39, 40, 41, 5, 42, 43, 44, 45, 9, 10, 11, 12, 13, 14, 46, 47, 48, 19, 49, 22, 50, 51, 52, 53, 21, 54, 55, 56, 57, 58, 59, 28, 23, 29, 30, 31, 32, 33, 117, 118, 119, 120, 121, 122, 123, 124, 125, 126, 127, 128, 129, 130, 131, 132, 133, 134] (by decide +kernel) (by decide +kernel)
set_option maxRecDepth 20000 in
theorem gX5_camper_X0_songsOf : GoodIn wsX5_camper (wsV RX5 184 RX0 yX0_songsOf wsX0_songsOf) := goodIn_app (goodIn_of _ (by decide +kernel)) ggX5_camper_X0_songsOf
set_option maxRecDepth 20000 in
theorem ggX5_camper_X3_neighboursOf : GoodIn wsX5_camper wsX3_neighboursOf := goodIn_r _ [63, 21, 22, 23, 10, 11, 12, 13, 14, 64, 65, 66, 19, 67, 68, 69, 70, 71, 72, 73, 74, 75, 58, 76, 77, 78, 79, 28, 29, 30, 31, 80, 81, 82, 83, 59, 84, 85, 86, 87, 32, 33, 88, 89, 90, 91, 92, 93, 94, 95, 96, 130, 131, 132, 133, 134, 129] (by decide +kernel) (by decide +kernel)
set_option maxRecDepth 20000 in
theorem gX5_camper_X3_neighboursOf : GoodIn wsX5_camper (wsV RX5 187 RX3 yX3_neighboursOf wsX3_neighboursOf) := goodIn_app (goodIn_of _ (by decide +kernel)) ggX5_camper_X3_neighboursOf
set_option maxRecDepth 20000 in
theorem ggX5_camper_X0_loudnessOf : GoodIn wsX5_camper wsX0_loudnessOf := goodIn_r _ [100, 38, 39, 40, 41, 5, 42, 43, 44, 45, 9, 10, 11, 12, 13, 14, 46, 47, 48, 19, 49, 22, 50, 51, 52, 53, 21, 54, 55, 56, 57, 58, 59, 28, 23, 29, 30, 31, 32, 33, 101, 102, 103, 104, 105, 106, 117, 118, 119, 120, 121, 122, 123, 124, 125, 126, 127, 128, 129, 130, 131, 132, 133, 134] (by decide +kernel) (by decide +kernel)
set_option maxRecDepth 20000 in
theorem gX5_camper_X0_loudnessOf : GoodIn wsX5_camper (wsV RX5 190 RX0 yX0_loudnessOf wsX0_loudnessOf) := goodIn_app (goodIn_of _ (by decide +kernel)) ggX5_camper_X0_loudnessOf
set_option maxRecDepth 20000 in
theorem ggX5_camper_X5_bitsOf : GoodIn wsX5_camper wsX5_bitsOf := goodIn_r _ [109, 110] (by decide +kernel) (by decide +kernel)
set_option maxRecDepth 20000 in
theorem gX5_camper_X5_bitsOf : GoodIn wsX5_camper (va_wsS RX5 194 yX5_bitsOf wsX5_bitsOf) := goodIn_app (goodIn_of _ (by decide +kernel)) ggX5_camper_X5_bitsOf
theorem dX5_camper_0 : decode cX5_camper 0 = .ok (.aload_n 0, 1) := by decide +kernel
theorem dX5_camper_1 : decode cX5_camper 1 = .ok (.getfield 12, 3) := by decide +kernel
theorem dX5_camper_4 : decode cX5_camper 4 = .ok (.iload_n 1, 1) := by decide +kernel
theorem dX5_camper_5 : decode cX5_camper 5 = .ok (.invokevirtual 70, 3) := by decide +kernel
theorem dX5_camper_8 : decode cX5_camper 8 = .ok (.ifCond .ne 5, 3) := by decide +kernel
theorem dX5_camper_11 : decode cX5_camper 11 = .ok (.iconst (-1), 1) := by decide +kernel
theorem dX5_camper_12 : decode cX5_camper 12 = .ok (.ireturn, 1) := by decide +kernel
theorem dX5_camper_13 : decode cX5_camper 13 = .ok (.iload_n 2, 1) := by decide +kernel
theorem dX5_camper_14 : decode cX5_camper 14 = .ok (.tableswitch 123 0 6 #[42, 54, 66, 78, 90, 99, 111], 42) := by decide +kernel
theorem dX5_camper_56 : decode cX5_camper 56 = .ok (.aload_n 0, 1) := by decide +kernel
theorem dX5_camper_57 : decode cX5_camper 57 = .ok (.getfield 12, 3) := by decide +kernel
theorem dX5_camper_60 : decode cX5_camper 60 = .ok (.getfield 93, 3) := by decide +kernel
theorem dX5_camper_63 : decode cX5_camper 63 = .ok (.iload_n 1, 1) := by decide +kernel
theorem dX5_camper_64 : decode cX5_camper 64 = .ok (.invokevirtual 97, 3) := by decide +kernel
theorem dX5_camper_67 : decode cX5_camper 67 = .ok (.ireturn, 1) := by decide +kernel
theorem dX5_camper_68 : decode cX5_camper 68 = .ok (.aload_n 0, 1) := by decide +kernel
theorem dX5_camper_69 : decode cX5_camper 69 = .ok (.getfield 12, 3) := by decide +kernel
theorem dX5_camper_72 : decode cX5_camper 72 = .ok (.getfield 102, 3) := by decide +kernel
theorem dX5_camper_75 : decode cX5_camper 75 = .ok (.iload_n 1, 1) := by decide +kernel
theorem dX5_camper_76 : decode cX5_camper 76 = .ok (.invokevirtual 97, 3) := by decide +kernel
theorem dX5_camper_79 : decode cX5_camper 79 = .ok (.ireturn, 1) := by decide +kernel
theorem dX5_camper_80 : decode cX5_camper 80 = .ok (.aload_n 0, 1) := by decide +kernel
theorem dX5_camper_81 : decode cX5_camper 81 = .ok (.getfield 12, 3) := by decide +kernel
theorem dX5_camper_84 : decode cX5_camper 84 = .ok (.getfield 81, 3) := by decide +kernel
theorem dX5_camper_87 : decode cX5_camper 87 = .ok (.iload_n 1, 1) := by decide +kernel
theorem dX5_camper_88 : decode cX5_camper 88 = .ok (.invokevirtual 178, 3) := by decide +kernel
theorem dX5_camper_91 : decode cX5_camper 91 = .ok (.ireturn, 1) := by decide +kernel
theorem dX5_camper_92 : decode cX5_camper 92 = .ok (.aload_n 0, 1) := by decide +kernel
theorem dX5_camper_93 : decode cX5_camper 93 = .ok (.getfield 12, 3) := by decide +kernel
theorem dX5_camper_96 : decode cX5_camper 96 = .ok (.getfield 81, 3) := by decide +kernel
theorem dX5_camper_99 : decode cX5_camper 99 = .ok (.iload_n 1, 1) := by decide +kernel
theorem dX5_camper_100 : decode cX5_camper 100 = .ok (.invokevirtual 181, 3) := by decide +kernel
theorem dX5_camper_103 : decode cX5_camper 103 = .ok (.ireturn, 1) := by decide +kernel
theorem dX5_camper_104 : decode cX5_camper 104 = .ok (.aload_n 0, 1) := by decide +kernel
theorem dX5_camper_105 : decode cX5_camper 105 = .ok (.getfield 12, 3) := by decide +kernel
theorem dX5_camper_108 : decode cX5_camper 108 = .ok (.iload_n 1, 1) := by decide +kernel
theorem dX5_camper_109 : decode cX5_camper 109 = .ok (.invokevirtual 184, 3) := by decide +kernel
theorem dX5_camper_112 : decode cX5_camper 112 = .ok (.ireturn, 1) := by decide +kernel
theorem dX5_camper_113 : decode cX5_camper 113 = .ok (.aload_n 0, 1) := by decide +kernel
theorem dX5_camper_114 : decode cX5_camper 114 = .ok (.getfield 12, 3) := by decide +kernel
theorem dX5_camper_117 : decode cX5_camper 117 = .ok (.getfield 81, 3) := by decide +kernel
theorem dX5_camper_120 : decode cX5_camper 120 = .ok (.iload_n 1, 1) := by decide +kernel
theorem dX5_camper_121 : decode cX5_camper 121 = .ok (.invokevirtual 187, 3) := by decide +kernel
theorem dX5_camper_124 : decode cX5_camper 124 = .ok (.ireturn, 1) := by decide +kernel
theorem dX5_camper_125 : decode cX5_camper 125 = .ok (.aload_n 0, 1) := by decide +kernel
theorem dX5_camper_126 : decode cX5_camper 126 = .ok (.getfield 12, 3) := by decide +kernel
theorem dX5_camper_129 : decode cX5_camper 129 = .ok (.iload_n 1, 1) := by decide +kernel
theorem dX5_camper_130 : decode cX5_camper 130 = .ok (.invokevirtual 190, 3) := by decide +kernel
theorem dX5_camper_133 : decode cX5_camper 133 = .ok (.invokestatic 194, 3) := by decide +kernel
theorem dX5_camper_136 : decode cX5_camper 136 = .ok (.ireturn, 1) := by decide +kernel
theorem dX5_camper_137 : decode cX5_camper 137 = .ok (.bipush (-2), 2) := by decide +kernel
theorem dX5_camper_139 : decode cX5_camper 139 = .ok (.ireturn, 1) := by decide +kernel
set_option maxRecDepth 20000 in
theorem ggX5_plotOf_X0_isHere : GoodIn wsX5_plotOf wsX0_isHere := goodIn_r _ [6, 7, 8, 9, 10, 11, 12, 13, 14, 52, 53, 54, 55, 56, 57, 58, 59, 60, 61, 62, 63, 64] (by decide +kernel) (by decide +kernel)
set_option maxRecDepth 20000 in
theorem gX5_plotOf_X0_isHere : GoodIn wsX5_plotOf (wsV RX5 70 RX0 yX0_isHere wsX0_isHere) := goodIn_app (goodIn_of _ (by decide +kernel)) ggX5_plotOf_X0_isHere
set_option maxRecDepth 20000 in
theorem ggX5_plotOf_X3_ranked : GoodIn wsX5_plotOf wsX3_ranked := goodIn_r _ [19, 20, 21, 22, 10, 11, 12, 13, 14, 23, 24, 25, 18, 26, 27, 28, 29, 30, 31, 32, 65, 66, 67, 68, 69, 64] (by decide +kernel) (by decide +kernel)
set_option maxRecDepth 20000 in
theorem gX5_plotOf_X3_ranked : GoodIn wsX5_plotOf (wsV RX5 198 RX3 yX3_ranked wsX3_ranked) := goodIn_app (goodIn_of _ (by decide +kernel)) ggX5_plotOf_X3_ranked
set_option maxRecDepth 20000 in
theorem ggX5_plotOf_X3_x0Of : GoodIn wsX5_plotOf wsX3_x0Of := goodIn_r _ [36, 31, 22, 10, 11, 12, 13, 14, 65, 66, 67, 68, 69, 64] (by decide +kernel) (by decide +kernel)
set_option maxRecDepth 20000 in
theorem gX5_plotOf_X3_x0Of : GoodIn wsX5_plotOf (wsV RX5 163 RX3 yX3_x0Of wsX3_x0Of) := goodIn_app (goodIn_of _ (by decide +kernel)) ggX5_plotOf_X3_x0Of
set_option maxRecDepth 20000 in
theorem ggX5_plotOf_X3_y0Of : GoodIn wsX5_plotOf wsX3_y0Of := goodIn_r _ [40, 32, 22, 10, 11, 12, 13, 14, 65, 66, 67, 68, 69, 64] (by decide +kernel) (by decide +kernel)
set_option maxRecDepth 20000 in
theorem gX5_plotOf_X3_y0Of : GoodIn wsX5_plotOf (wsV RX5 166 RX3 yX3_y0Of wsX3_y0Of) := goodIn_app (goodIn_of _ (by decide +kernel)) ggX5_plotOf_X3_y0Of
set_option maxRecDepth 20000 in
theorem ggX5_plotOf_X3_depthOf : GoodIn wsX5_plotOf wsX3_depthOf := goodIn_r _ [44, 45, 22, 10, 11, 12, 13, 14, 65, 66, 67, 68, 69, 64] (by decide +kernel) (by decide +kernel)
set_option maxRecDepth 20000 in
theorem gX5_plotOf_X3_depthOf : GoodIn wsX5_plotOf (wsV RX5 109 RX3 yX3_depthOf wsX3_depthOf) := goodIn_app (goodIn_of _ (by decide +kernel)) ggX5_plotOf_X3_depthOf
theorem dX5_plotOf_0 : decode cX5_plotOf 0 = .ok (.aload_n 0, 1) := by decide +kernel
theorem dX5_plotOf_1 : decode cX5_plotOf 1 = .ok (.getfield 12, 3) := by decide +kernel
theorem dX5_plotOf_4 : decode cX5_plotOf 4 = .ok (.iload_n 1, 1) := by decide +kernel
theorem dX5_plotOf_5 : decode cX5_plotOf 5 = .ok (.invokevirtual 70, 3) := by decide +kernel
theorem dX5_plotOf_8 : decode cX5_plotOf 8 = .ok (.ifCond .ne 5, 3) := by decide +kernel
theorem dX5_plotOf_11 : decode cX5_plotOf 11 = .ok (.iconst (-1), 1) := by decide +kernel
theorem dX5_plotOf_12 : decode cX5_plotOf 12 = .ok (.ireturn, 1) := by decide +kernel
theorem dX5_plotOf_13 : decode cX5_plotOf 13 = .ok (.iload_n 2, 1) := by decide +kernel
theorem dX5_plotOf_14 : decode cX5_plotOf 14 = .ok (.ifCond .lt 12, 3) := by decide +kernel
theorem dX5_plotOf_17 : decode cX5_plotOf 17 = .ok (.iload_n 3, 1) := by decide +kernel
theorem dX5_plotOf_18 : decode cX5_plotOf 18 = .ok (.ifCond .lt 8, 3) := by decide +kernel
theorem dX5_plotOf_21 : decode cX5_plotOf 21 = .ok (.iload_n 3, 1) := by decide +kernel
theorem dX5_plotOf_22 : decode cX5_plotOf 22 = .ok (.iconst 2, 1) := by decide +kernel
theorem dX5_plotOf_23 : decode cX5_plotOf 23 = .ok (.if_icmp .le 6, 3) := by decide +kernel
theorem dX5_plotOf_26 : decode cX5_plotOf 26 = .ok (.bipush (-2), 2) := by decide +kernel
theorem dX5_plotOf_28 : decode cX5_plotOf 28 = .ok (.ireturn, 1) := by decide +kernel
theorem dX5_plotOf_29 : decode cX5_plotOf 29 = .ok (.aload_n 0, 1) := by decide +kernel
theorem dX5_plotOf_30 : decode cX5_plotOf 30 = .ok (.getfield 12, 3) := by decide +kernel
theorem dX5_plotOf_33 : decode cX5_plotOf 33 = .ok (.getfield 81, 3) := by decide +kernel
theorem dX5_plotOf_36 : decode cX5_plotOf 36 = .ok (.iload_n 1, 1) := by decide +kernel
theorem dX5_plotOf_37 : decode cX5_plotOf 37 = .ok (.iload_n 2, 1) := by decide +kernel
theorem dX5_plotOf_38 : decode cX5_plotOf 38 = .ok (.invokevirtual 198, 3) := by decide +kernel
theorem dX5_plotOf_41 : decode cX5_plotOf 41 = .ok (.istore 4, 2) := by decide +kernel
theorem dX5_plotOf_43 : decode cX5_plotOf 43 = .ok (.iload 4, 2) := by decide +kernel
theorem dX5_plotOf_45 : decode cX5_plotOf 45 = .ok (.iconst (-1), 1) := by decide +kernel
theorem dX5_plotOf_46 : decode cX5_plotOf 46 = .ok (.if_icmp .ne 6, 3) := by decide +kernel
theorem dX5_plotOf_49 : decode cX5_plotOf 49 = .ok (.bipush (-5), 2) := by decide +kernel
theorem dX5_plotOf_51 : decode cX5_plotOf 51 = .ok (.ireturn, 1) := by decide +kernel
theorem dX5_plotOf_52 : decode cX5_plotOf 52 = .ok (.iload_n 3, 1) := by decide +kernel
theorem dX5_plotOf_53 : decode cX5_plotOf 53 = .ok (.ifCond .ne 16, 3) := by decide +kernel
theorem dX5_plotOf_56 : decode cX5_plotOf 56 = .ok (.aload_n 0, 1) := by decide +kernel
theorem dX5_plotOf_57 : decode cX5_plotOf 57 = .ok (.getfield 12, 3) := by decide +kernel
theorem dX5_plotOf_60 : decode cX5_plotOf 60 = .ok (.getfield 81, 3) := by decide +kernel
theorem dX5_plotOf_63 : decode cX5_plotOf 63 = .ok (.iload 4, 2) := by decide +kernel
theorem dX5_plotOf_65 : decode cX5_plotOf 65 = .ok (.invokevirtual 163, 3) := by decide +kernel
theorem dX5_plotOf_68 : decode cX5_plotOf 68 = .ok (.ireturn, 1) := by decide +kernel
theorem dX5_plotOf_69 : decode cX5_plotOf 69 = .ok (.iload_n 3, 1) := by decide +kernel
theorem dX5_plotOf_70 : decode cX5_plotOf 70 = .ok (.iconst 1, 1) := by decide +kernel
theorem dX5_plotOf_71 : decode cX5_plotOf 71 = .ok (.if_icmp .ne 18, 3) := by decide +kernel
theorem dX5_plotOf_74 : decode cX5_plotOf 74 = .ok (.aload_n 0, 1) := by decide +kernel
theorem dX5_plotOf_75 : decode cX5_plotOf 75 = .ok (.getfield 12, 3) := by decide +kernel
theorem dX5_plotOf_78 : decode cX5_plotOf 78 = .ok (.getfield 81, 3) := by decide +kernel
theorem dX5_plotOf_81 : decode cX5_plotOf 81 = .ok (.iload 4, 2) := by decide +kernel
theorem dX5_plotOf_83 : decode cX5_plotOf 83 = .ok (.invokevirtual 166, 3) := by decide +kernel
theorem dX5_plotOf_86 : decode cX5_plotOf 86 = .ok (.goto 15, 3) := by decide +kernel
theorem dX5_plotOf_89 : decode cX5_plotOf 89 = .ok (.aload_n 0, 1) := by decide +kernel
theorem dX5_plotOf_90 : decode cX5_plotOf 90 = .ok (.getfield 12, 3) := by decide +kernel
theorem dX5_plotOf_93 : decode cX5_plotOf 93 = .ok (.getfield 81, 3) := by decide +kernel
theorem dX5_plotOf_96 : decode cX5_plotOf 96 = .ok (.iload 4, 2) := by decide +kernel
theorem dX5_plotOf_98 : decode cX5_plotOf 98 = .ok (.invokevirtual 109, 3) := by decide +kernel
theorem dX5_plotOf_101 : decode cX5_plotOf 101 = .ok (.ireturn, 1) := by decide +kernel
set_option maxRecDepth 20000 in
theorem ggX5_song_X0_isSong : GoodIn wsX5_song wsX0_isSong := goodIn_r _ [6, 7, 66, 67, 68, 69, 70, 71, 72, 73, 74, 75, 76, 77] (by decide +kernel) (by decide +kernel)
set_option maxRecDepth 20000 in
theorem gX5_song_X0_isSong : GoodIn wsX5_song (wsV RX5 132 RX0 yX0_isSong wsX0_isSong) := goodIn_app (goodIn_of _ (by decide +kernel)) ggX5_song_X0_isSong
set_option maxRecDepth 20000 in
theorem ggX5_song_X4_at : GoodIn wsX5_song wsX4_at := goodIn_r _ [12, 13, 78] (by decide +kernel) (by decide +kernel)
set_option maxRecDepth 20000 in
theorem gX5_song_X4_at : GoodIn wsX5_song (wsV RX5 97 RX4 yX4_at wsX4_at) := goodIn_app (goodIn_of _ (by decide +kernel)) ggX5_song_X4_at
set_option maxRecDepth 20000 in
theorem ggX5_song_X0_loudnessOfSong : GoodIn wsX5_song wsX0_loudnessOfSong := goodIn_r _ [17, 18, 19, 20, 9, 10, 11, 12, 13, 66, 67, 68, 69, 70, 71, 72, 73, 74, 75, 76, 77, 78] (by decide +kernel) (by decide +kernel)
set_option maxRecDepth 20000 in
theorem gX5_song_X0_loudnessOfSong : GoodIn wsX5_song (wsV RX5 201 RX0 yX0_loudnessOfSong wsX0_loudnessOfSong) := goodIn_app (goodIn_of _ (by decide +kernel)) ggX5_song_X0_loudnessOfSong
set_option maxRecDepth 20000 in
theorem ggX5_song_X5_bitsOf : GoodIn wsX5_song wsX5_bitsOf := goodIn_r _ [24, 25] (by decide +kernel) (by decide +kernel)
set_option maxRecDepth 20000 in
theorem gX5_song_X5_bitsOf : GoodIn wsX5_song (va_wsS RX5 194 yX5_bitsOf wsX5_bitsOf) := goodIn_app (goodIn_of _ (by decide +kernel)) ggX5_song_X5_bitsOf
set_option maxRecDepth 20000 in
theorem ggX5_song_X5_toldOwnerOf : GoodIn wsX5_song wsX5_toldOwnerOf := goodIn_r _ [29, 1, 30, 31, 32, 5, 33, 34, 35, 36, 20, 9, 10, 11, 12, 13, 37, 38, 39, 40, 41, 42, 43, 44, 45, 46, 47, 48, 49, 50, 51, 52, 53, 54, 55, 56, 23, 57, 58, 59, 60, 61, 62, 63, 64, 65, 66, 67, 68, 69, 70, 71, 72, 73, 74, 75, 76, 77, 78, 79, 80, 81, 82, 83] (by decide +kernel) (by decide +kernel)
set_option maxRecDepth 20000 in
theorem gX5_song_X5_toldOwnerOf : GoodIn wsX5_song (wsV RX5 144 RX5 yX5_toldOwnerOf wsX5_toldOwnerOf) := goodIn_app (goodIn_of _ (by decide +kernel)) ggX5_song_X5_toldOwnerOf
theorem dX5_song_0 : decode cX5_song 0 = .ok (.aload_n 0, 1) := by decide +kernel
theorem dX5_song_1 : decode cX5_song 1 = .ok (.getfield 12, 3) := by decide +kernel
theorem dX5_song_4 : decode cX5_song 4 = .ok (.iload_n 1, 1) := by decide +kernel
theorem dX5_song_5 : decode cX5_song 5 = .ok (.invokevirtual 132, 3) := by decide +kernel
theorem dX5_song_8 : decode cX5_song 8 = .ok (.ifCond .ne 5, 3) := by decide +kernel
theorem dX5_song_11 : decode cX5_song 11 = .ok (.iconst (-1), 1) := by decide +kernel
theorem dX5_song_12 : decode cX5_song 12 = .ok (.ireturn, 1) := by decide +kernel
theorem dX5_song_13 : decode cX5_song 13 = .ok (.iload_n 2, 1) := by decide +kernel
theorem dX5_song_14 : decode cX5_song 14 = .ok (.tableswitch 72 0 3 #[30, 42, 54, 66], 30) := by decide +kernel
theorem dX5_song_44 : decode cX5_song 44 = .ok (.aload_n 0, 1) := by decide +kernel
theorem dX5_song_45 : decode cX5_song 45 = .ok (.getfield 12, 3) := by decide +kernel
theorem dX5_song_48 : decode cX5_song 48 = .ok (.getfield 135, 3) := by decide +kernel
theorem dX5_song_51 : decode cX5_song 51 = .ok (.iload_n 1, 1) := by decide +kernel
theorem dX5_song_52 : decode cX5_song 52 = .ok (.invokevirtual 97, 3) := by decide +kernel
theorem dX5_song_55 : decode cX5_song 55 = .ok (.ireturn, 1) := by decide +kernel
theorem dX5_song_56 : decode cX5_song 56 = .ok (.aload_n 0, 1) := by decide +kernel
theorem dX5_song_57 : decode cX5_song 57 = .ok (.getfield 12, 3) := by decide +kernel
theorem dX5_song_60 : decode cX5_song 60 = .ok (.getfield 138, 3) := by decide +kernel
theorem dX5_song_63 : decode cX5_song 63 = .ok (.iload_n 1, 1) := by decide +kernel
theorem dX5_song_64 : decode cX5_song 64 = .ok (.invokevirtual 97, 3) := by decide +kernel
theorem dX5_song_67 : decode cX5_song 67 = .ok (.ireturn, 1) := by decide +kernel
theorem dX5_song_68 : decode cX5_song 68 = .ok (.aload_n 0, 1) := by decide +kernel
theorem dX5_song_69 : decode cX5_song 69 = .ok (.getfield 12, 3) := by decide +kernel
theorem dX5_song_72 : decode cX5_song 72 = .ok (.iload_n 1, 1) := by decide +kernel
theorem dX5_song_73 : decode cX5_song 73 = .ok (.invokevirtual 201, 3) := by decide +kernel
theorem dX5_song_76 : decode cX5_song 76 = .ok (.invokestatic 194, 3) := by decide +kernel
theorem dX5_song_79 : decode cX5_song 79 = .ok (.ireturn, 1) := by decide +kernel
theorem dX5_song_80 : decode cX5_song 80 = .ok (.aload_n 0, 1) := by decide +kernel
theorem dX5_song_81 : decode cX5_song 81 = .ok (.iload_n 1, 1) := by decide +kernel
theorem dX5_song_82 : decode cX5_song 82 = .ok (.invokevirtual 144, 3) := by decide +kernel
theorem dX5_song_85 : decode cX5_song 85 = .ok (.ireturn, 1) := by decide +kernel
theorem dX5_song_86 : decode cX5_song 86 = .ok (.bipush (-2), 2) := by decide +kernel
theorem dX5_song_88 : decode cX5_song 88 = .ok (.ireturn, 1) := by decide +kernel
set_option maxRecDepth 20000 in
theorem ggX5_way_X0_isHere : GoodIn wsX5_way wsX0_isHere := goodIn_r _ [6, 7, 8, 9, 10, 11, 12, 13, 14, 97, 98, 99, 100, 101, 102, 103, 104, 105, 106, 107, 108, 109] (by decide +kernel) (by decide +kernel)
set_option maxRecDepth 20000 in
theorem gX5_way_X0_isHere : GoodIn wsX5_way (wsV RX5 70 RX0 yX0_isHere wsX0_isHere) := goodIn_app (goodIn_of _ (by decide +kernel)) ggX5_way_X0_isHere
set_option maxRecDepth 20000 in
theorem ggX5_way_X5_isPoint : GoodIn wsX5_way wsX5_isPoint := goodIn_r _ [18] (by decide +kernel) (by decide +kernel)
set_option maxRecDepth 20000 in
theorem gX5_way_X5_isPoint : GoodIn wsX5_way (va_wsS RX5 40 yX5_isPoint wsX5_isPoint) := goodIn_app (goodIn_of _ (by decide +kernel)) ggX5_way_X5_isPoint
set_option maxRecDepth 20000 in
theorem ggX5_way_X0_plotOnWay : GoodIn wsX5_way wsX0_plotOnWay := goodIn_r _ [22, 23, 24, 25, 9, 10, 11, 12, 13, 14, 26, 27, 28, 29, 30, 31, 32, 33, 34, 35, 36, 37, 38, 39, 40, 17, 41, 42, 43, 44, 45, 46, 47, 48, 49, 50, 51, 52, 53, 54, 55, 56, 57, 58, 59, 60, 61, 62, 63, 64, 65, 66, 67, 68, 69, 70, 71, 72, 73, 74, 75, 76, 77, 78, 79, 80, 81, 82, 83, 97, 98, 99, 100, 101, 102, 103, 104, 105, 106, 107, 108, 109, 110, 111, 112, 113, 114] (by decide +kernel) (by decide +kernel)
set_option maxRecDepth 20000 in
theorem gX5_way_X0_plotOnWay : GoodIn wsX5_way (wsV RX5 204 RX0 yX0_plotOnWay wsX0_plotOnWay) := goodIn_app (goodIn_of _ (by decide +kernel)) ggX5_way_X0_plotOnWay
set_option maxRecDepth 20000 in
theorem ggX5_way_X3_ownerOf : GoodIn wsX5_way wsX3_ownerOf := goodIn_r _ [87, 88, 39, 10, 11, 12, 13, 14, 110, 111, 112, 113, 114, 109] (by decide +kernel) (by decide +kernel)
set_option maxRecDepth 20000 in
theorem gX5_way_X3_ownerOf : GoodIn wsX5_way (wsV RX5 90 RX3 yX3_ownerOf wsX3_ownerOf) := goodIn_app (goodIn_of _ (by decide +kernel)) ggX5_way_X3_ownerOf
set_option maxRecDepth 20000 in
theorem ggX5_way_X3_x0Of : GoodIn wsX5_way wsX3_x0Of := goodIn_r _ [56, 36, 39, 10, 11, 12, 13, 14, 110, 111, 112, 113, 114, 109] (by decide +kernel) (by decide +kernel)
set_option maxRecDepth 20000 in
theorem gX5_way_X3_x0Of : GoodIn wsX5_way (wsV RX5 163 RX3 yX3_x0Of wsX3_x0Of) := goodIn_app (goodIn_of _ (by decide +kernel)) ggX5_way_X3_x0Of
set_option maxRecDepth 20000 in
theorem ggX5_way_X3_y0Of : GoodIn wsX5_way wsX3_y0Of := goodIn_r _ [64, 37, 39, 10, 11, 12, 13, 14, 110, 111, 112, 113, 114, 109] (by decide +kernel) (by decide +kernel)
set_option maxRecDepth 20000 in
theorem gX5_way_X3_y0Of : GoodIn wsX5_way (wsV RX5 166 RX3 yX3_y0Of wsX3_y0Of) := goodIn_app (goodIn_of _ (by decide +kernel)) ggX5_way_X3_y0Of
theorem dX5_way_0 : decode cX5_way 0 = .ok (.aload_n 0, 1) := by decide +kernel
theorem dX5_way_1 : decode cX5_way 1 = .ok (.getfield 12, 3) := by decide +kernel
theorem dX5_way_4 : decode cX5_way 4 = .ok (.iload_n 1, 1) := by decide +kernel
theorem dX5_way_5 : decode cX5_way 5 = .ok (.invokevirtual 70, 3) := by decide +kernel
theorem dX5_way_8 : decode cX5_way 8 = .ok (.ifCond .eq 11, 3) := by decide +kernel
theorem dX5_way_11 : decode cX5_way 11 = .ok (.iload_n 2, 1) := by decide +kernel
theorem dX5_way_12 : decode cX5_way 12 = .ok (.iload_n 3, 1) := by decide +kernel
theorem dX5_way_13 : decode cX5_way 13 = .ok (.invokestatic 40, 3) := by decide +kernel
theorem dX5_way_16 : decode cX5_way 16 = .ok (.ifCond .ne 5, 3) := by decide +kernel
theorem dX5_way_19 : decode cX5_way 19 = .ok (.iconst (-1), 1) := by decide +kernel
theorem dX5_way_20 : decode cX5_way 20 = .ok (.ireturn, 1) := by decide +kernel
theorem dX5_way_21 : decode cX5_way 21 = .ok (.iload 4, 2) := by decide +kernel
theorem dX5_way_23 : decode cX5_way 23 = .ok (.ifCond .lt 14, 3) := by decide +kernel
theorem dX5_way_26 : decode cX5_way 26 = .ok (.iload 5, 2) := by decide +kernel
theorem dX5_way_28 : decode cX5_way 28 = .ok (.ifCond .lt 9, 3) := by decide +kernel
theorem dX5_way_31 : decode cX5_way 31 = .ok (.iload 5, 2) := by decide +kernel
theorem dX5_way_33 : decode cX5_way 33 = .ok (.iconst 2, 1) := by decide +kernel
theorem dX5_way_34 : decode cX5_way 34 = .ok (.if_icmp .le 6, 3) := by decide +kernel
theorem dX5_way_37 : decode cX5_way 37 = .ok (.bipush (-2), 2) := by decide +kernel
theorem dX5_way_39 : decode cX5_way 39 = .ok (.ireturn, 1) := by decide +kernel
theorem dX5_way_40 : decode cX5_way 40 = .ok (.aload_n 0, 1) := by decide +kernel
theorem dX5_way_41 : decode cX5_way 41 = .ok (.getfield 12, 3) := by decide +kernel
theorem dX5_way_44 : decode cX5_way 44 = .ok (.iload_n 1, 1) := by decide +kernel
theorem dX5_way_45 : decode cX5_way 45 = .ok (.iload_n 2, 1) := by decide +kernel
theorem dX5_way_46 : decode cX5_way 46 = .ok (.iload_n 3, 1) := by decide +kernel
theorem dX5_way_47 : decode cX5_way 47 = .ok (.iload 4, 2) := by decide +kernel
theorem dX5_way_49 : decode cX5_way 49 = .ok (.invokevirtual 204, 3) := by decide +kernel
theorem dX5_way_52 : decode cX5_way 52 = .ok (.istore 6, 2) := by decide +kernel
theorem dX5_way_54 : decode cX5_way 54 = .ok (.iload 6, 2) := by decide +kernel
theorem dX5_way_56 : decode cX5_way 56 = .ok (.iconst (-1), 1) := by decide +kernel
theorem dX5_way_57 : decode cX5_way 57 = .ok (.if_icmp .ne 6, 3) := by decide +kernel
theorem dX5_way_60 : decode cX5_way 60 = .ok (.bipush (-5), 2) := by decide +kernel
theorem dX5_way_62 : decode cX5_way 62 = .ok (.ireturn, 1) := by decide +kernel
theorem dX5_way_63 : decode cX5_way 63 = .ok (.iload 5, 2) := by decide +kernel
theorem dX5_way_65 : decode cX5_way 65 = .ok (.ifCond .ne 16, 3) := by decide +kernel
theorem dX5_way_68 : decode cX5_way 68 = .ok (.aload_n 0, 1) := by decide +kernel
theorem dX5_way_69 : decode cX5_way 69 = .ok (.getfield 12, 3) := by decide +kernel
theorem dX5_way_72 : decode cX5_way 72 = .ok (.getfield 81, 3) := by decide +kernel
theorem dX5_way_75 : decode cX5_way 75 = .ok (.iload 6, 2) := by decide +kernel
theorem dX5_way_77 : decode cX5_way 77 = .ok (.invokevirtual 90, 3) := by decide +kernel
theorem dX5_way_80 : decode cX5_way 80 = .ok (.ireturn, 1) := by decide +kernel
theorem dX5_way_81 : decode cX5_way 81 = .ok (.iload 5, 2) := by decide +kernel
theorem dX5_way_83 : decode cX5_way 83 = .ok (.iconst 1, 1) := by decide +kernel
theorem dX5_way_84 : decode cX5_way 84 = .ok (.if_icmp .ne 18, 3) := by decide +kernel
theorem dX5_way_87 : decode cX5_way 87 = .ok (.aload_n 0, 1) := by decide +kernel
theorem dX5_way_88 : decode cX5_way 88 = .ok (.getfield 12, 3) := by decide +kernel
theorem dX5_way_91 : decode cX5_way 91 = .ok (.getfield 81, 3) := by decide +kernel
theorem dX5_way_94 : decode cX5_way 94 = .ok (.iload 6, 2) := by decide +kernel
theorem dX5_way_96 : decode cX5_way 96 = .ok (.invokevirtual 163, 3) := by decide +kernel
theorem dX5_way_99 : decode cX5_way 99 = .ok (.goto 15, 3) := by decide +kernel
theorem dX5_way_102 : decode cX5_way 102 = .ok (.aload_n 0, 1) := by decide +kernel
theorem dX5_way_103 : decode cX5_way 103 = .ok (.getfield 12, 3) := by decide +kernel
theorem dX5_way_106 : decode cX5_way 106 = .ok (.getfield 81, 3) := by decide +kernel
theorem dX5_way_109 : decode cX5_way 109 = .ok (.iload 6, 2) := by decide +kernel
theorem dX5_way_111 : decode cX5_way 111 = .ok (.invokevirtual 166, 3) := by decide +kernel
theorem dX5_way_114 : decode cX5_way 114 = .ok (.ireturn, 1) := by decide +kernel
set_option maxRecDepth 20000 in
theorem ggX5_would_X5_isPoint : GoodIn wsX5_would wsX5_isPoint := goodIn_r _ [5] (by decide +kernel) (by decide +kernel)
set_option maxRecDepth 20000 in
theorem gX5_would_X5_isPoint : GoodIn wsX5_would (va_wsS RX5 40 yX5_isPoint wsX5_isPoint) := goodIn_app (goodIn_of _ (by decide +kernel)) ggX5_would_X5_isPoint
set_option maxRecDepth 20000 in
theorem ggX5_would_X0_depthForNewcomer : GoodIn wsX5_would wsX0_depthForNewcomer := goodIn_r _ [10, 11, 12, 13, 14, 15, 16, 17, 18, 19, 20, 21, 22, 23, 24, 25, 26, 27, 28, 29, 30, 31, 32, 33, 34, 4, 35, 36, 37, 38, 39, 40, 41, 42, 43, 44, 45, 46, 47, 48, 49, 9, 50, 51, 52, 53, 54, 55, 56, 57, 58, 59, 60, 61, 62, 63, 64, 65, 66, 88, 89, 90, 91, 92, 93, 94, 95, 96, 97, 98, 99, 100, 101, 102, 103, 104, 105] (by decide +kernel) (by decide +kernel)
set_option maxRecDepth 20000 in
theorem gX5_would_X0_depthForNewcomer : GoodIn wsX5_would (wsV RX5 44 RX0 yX0_depthForNewcomer wsX0_depthForNewcomer) := goodIn_app (goodIn_of _ (by decide +kernel)) ggX5_would_X0_depthForNewcomer
set_option maxRecDepth 20000 in
theorem ggX5_would_X0_songsInPart : GoodIn wsX5_would wsX0_songsInPart := goodIn_r _ [70, 71, 72, 73, 56, 29, 30, 31, 32, 33, 58, 59, 9, 60, 61, 4, 62, 63, 34, 35, 64, 65, 66, 36, 37, 88, 89, 90, 91, 92, 93, 94, 95, 96, 97, 98, 99, 105] (by decide +kernel) (by decide +kernel)
set_option maxRecDepth 20000 in
theorem gX5_would_X0_songsInPart : GoodIn wsX5_would (wsV RX5 208 RX0 yX0_songsInPart wsX0_songsInPart) := goodIn_app (goodIn_of _ (by decide +kernel)) ggX5_would_X0_songsInPart
set_option maxRecDepth 20000 in
theorem ggX5_would_X3_ownerAt : GoodIn wsX5_would wsX3_ownerAt := goodIn_r _ [77, 42, 78, 16, 17, 18, 19, 20, 21, 22, 23, 24, 25, 26, 27, 28, 29, 30, 31, 32, 33, 34, 4, 35, 36, 37, 100, 101, 102, 103, 104, 105] (by decide +kernel) (by decide +kernel)
set_option maxRecDepth 20000 in
theorem gX5_would_X3_ownerAt : GoodIn wsX5_would (wsV RX5 211 RX3 yX3_ownerAt wsX3_ownerAt) := goodIn_app (goodIn_of _ (by decide +kernel)) ggX5_would_X3_ownerAt
set_option maxRecDepth 20000 in
theorem ggX5_would_X5_orNone : GoodIn wsX5_would wsX5_orNone := goodIn_r _ [81] (by decide +kernel) (by decide +kernel)
set_option maxRecDepth 20000 in
theorem gX5_would_X5_orNone : GoodIn wsX5_would (va_wsS RX5 160 yX5_orNone wsX5_orNone) := goodIn_app (goodIn_of _ (by decide +kernel)) ggX5_would_X5_orNone
theorem dX5_would_0 : decode cX5_would 0 = .ok (.iload_n 1, 1) := by decide +kernel
theorem dX5_would_1 : decode cX5_would 1 = .ok (.iload_n 2, 1) := by decide +kernel
theorem dX5_would_2 : decode cX5_would 2 = .ok (.invokestatic 40, 3) := by decide +kernel
theorem dX5_would_5 : decode cX5_would 5 = .ok (.ifCond .ne 5, 3) := by decide +kernel
theorem dX5_would_8 : decode cX5_would 8 = .ok (.iconst (-1), 1) := by decide +kernel
theorem dX5_would_9 : decode cX5_would 9 = .ok (.ireturn, 1) := by decide +kernel
theorem dX5_would_10 : decode cX5_would 10 = .ok (.iload_n 3, 1) := by decide +kernel
theorem dX5_would_11 : decode cX5_would 11 = .ok (.ifCond .lt 8, 3) := by decide +kernel
theorem dX5_would_14 : decode cX5_would 14 = .ok (.iload_n 3, 1) := by decide +kernel
theorem dX5_would_15 : decode cX5_would 15 = .ok (.iconst 2, 1) := by decide +kernel
theorem dX5_would_16 : decode cX5_would 16 = .ok (.if_icmp .le 6, 3) := by decide +kernel
theorem dX5_would_19 : decode cX5_would 19 = .ok (.bipush (-2), 2) := by decide +kernel
theorem dX5_would_21 : decode cX5_would 21 = .ok (.ireturn, 1) := by decide +kernel
theorem dX5_would_22 : decode cX5_would 22 = .ok (.aload_n 0, 1) := by decide +kernel
theorem dX5_would_23 : decode cX5_would 23 = .ok (.getfield 12, 3) := by decide +kernel
theorem dX5_would_26 : decode cX5_would 26 = .ok (.iload_n 1, 1) := by decide +kernel
theorem dX5_would_27 : decode cX5_would 27 = .ok (.iload_n 2, 1) := by decide +kernel
theorem dX5_would_28 : decode cX5_would 28 = .ok (.invokevirtual 44, 3) := by decide +kernel
theorem dX5_would_31 : decode cX5_would 31 = .ok (.istore 4, 2) := by decide +kernel
theorem dX5_would_33 : decode cX5_would 33 = .ok (.iload 4, 2) := by decide +kernel
theorem dX5_would_35 : decode cX5_would 35 = .ok (.ifCond .lt 7, 3) := by decide +kernel
theorem dX5_would_38 : decode cX5_would 38 = .ok (.iload_n 3, 1) := by decide +kernel
theorem dX5_would_39 : decode cX5_would 39 = .ok (.ifCond .ne 6, 3) := by decide +kernel
theorem dX5_would_42 : decode cX5_would 42 = .ok (.iload 4, 2) := by decide +kernel
theorem dX5_would_44 : decode cX5_would 44 = .ok (.ireturn, 1) := by decide +kernel
theorem dX5_would_45 : decode cX5_would 45 = .ok (.iload_n 3, 1) := by decide +kernel
theorem dX5_would_46 : decode cX5_would 46 = .ok (.iconst 1, 1) := by decide +kernel
theorem dX5_would_47 : decode cX5_would 47 = .ok (.if_icmp .ne 15, 3) := by decide +kernel
theorem dX5_would_50 : decode cX5_would 50 = .ok (.aload_n 0, 1) := by decide +kernel
theorem dX5_would_51 : decode cX5_would 51 = .ok (.getfield 12, 3) := by decide +kernel
theorem dX5_would_54 : decode cX5_would 54 = .ok (.iload_n 1, 1) := by decide +kernel
theorem dX5_would_55 : decode cX5_would 55 = .ok (.iload_n 2, 1) := by decide +kernel
theorem dX5_would_56 : decode cX5_would 56 = .ok (.iload 4, 2) := by decide +kernel
theorem dX5_would_58 : decode cX5_would 58 = .ok (.invokevirtual 208, 3) := by decide +kernel
theorem dX5_would_61 : decode cX5_would 61 = .ok (.ireturn, 1) := by decide +kernel
theorem dX5_would_62 : decode cX5_would 62 = .ok (.aload_n 0, 1) := by decide +kernel
theorem dX5_would_63 : decode cX5_would 63 = .ok (.getfield 12, 3) := by decide +kernel
theorem dX5_would_66 : decode cX5_would 66 = .ok (.getfield 81, 3) := by decide +kernel
theorem dX5_would_69 : decode cX5_would 69 = .ok (.iload_n 1, 1) := by decide +kernel
theorem dX5_would_70 : decode cX5_would 70 = .ok (.iload_n 2, 1) := by decide +kernel
theorem dX5_would_71 : decode cX5_would 71 = .ok (.invokevirtual 211, 3) := by decide +kernel
theorem dX5_would_74 : decode cX5_would 74 = .ok (.invokestatic 160, 3) := by decide +kernel
theorem dX5_would_77 : decode cX5_would 77 = .ok (.ireturn, 1) := by decide +kernel
set_option maxRecDepth 20000 in
theorem ggX5_loudest_X0_isHere : GoodIn wsX5_loudest wsX0_isHere := goodIn_r _ [7, 8, 9, 10, 11, 12, 13, 14, 15, 64, 65, 66, 67, 68, 69, 70, 71, 72, 73, 74, 75, 76] (by decide +kernel) (by decide +kernel)
set_option maxRecDepth 20000 in
theorem gX5_loudest_X0_isHere : GoodIn wsX5_loudest (wsV RX5 70 RX0 yX0_isHere wsX0_isHere) := goodIn_app (goodIn_of _ (by decide +kernel)) ggX5_loudest_X0_isHere
set_option maxRecDepth 20000 in
theorem ggX5_loudest_X0_loudnessOf : GoodIn wsX5_loudest wsX0_loudnessOf := goodIn_r _ [19, 20, 21, 22, 23, 6, 24, 25, 26, 27, 10, 11, 12, 13, 14, 15, 28, 29, 30, 31, 32, 33, 34, 35, 36, 37, 38, 39, 40, 41, 42, 43, 44, 45, 46, 47, 48, 49, 50, 51, 52, 53, 54, 55, 56, 57, 64, 65, 66, 67, 68, 69, 70, 71, 72, 73, 74, 75, 76, 77, 78, 79, 80, 81] (by decide +kernel) (by decide +kernel)
set_option maxRecDepth 20000 in
theorem gX5_loudest_X0_loudnessOf : GoodIn wsX5_loudest (wsV RX5 190 RX0 yX0_loudnessOf wsX0_loudnessOf) := goodIn_app (goodIn_of _ (by decide +kernel)) ggX5_loudest_X0_loudnessOf
theorem dX5_loudest_0 : decode cX5_loudest 0 = .ok (.bipush (-5), 2) := by decide +kernel
theorem dX5_loudest_2 : decode cX5_loudest 2 = .ok (.istore_n 1, 1) := by decide +kernel
theorem dX5_loudest_3 : decode cX5_loudest 3 = .ok (.ldc 214, 2) := by decide +kernel
theorem dX5_loudest_5 : decode cX5_loudest 5 = .ok (.fstore_n 2, 1) := by decide +kernel
theorem dX5_loudest_6 : decode cX5_loudest 6 = .ok (.iconst 0, 1) := by decide +kernel
theorem dX5_loudest_7 : decode cX5_loudest 7 = .ok (.istore_n 3, 1) := by decide +kernel
theorem dX5_loudest_8 : decode cX5_loudest 8 = .ok (.iload_n 3, 1) := by decide +kernel
theorem dX5_loudest_9 : decode cX5_loudest 9 = .ok (.aload_n 0, 1) := by decide +kernel
theorem dX5_loudest_10 : decode cX5_loudest 10 = .ok (.getfield 12, 3) := by decide +kernel
theorem dX5_loudest_13 : decode cX5_loudest 13 = .ok (.getfield 215, 3) := by decide +kernel
theorem dX5_loudest_16 : decode cX5_loudest 16 = .ok (.if_icmp .ge 42, 3) := by decide +kernel
theorem dX5_loudest_19 : decode cX5_loudest 19 = .ok (.aload_n 0, 1) := by decide +kernel
theorem dX5_loudest_20 : decode cX5_loudest 20 = .ok (.getfield 12, 3) := by decide +kernel
theorem dX5_loudest_23 : decode cX5_loudest 23 = .ok (.iload_n 3, 1) := by decide +kernel
theorem dX5_loudest_24 : decode cX5_loudest 24 = .ok (.invokevirtual 70, 3) := by decide +kernel
theorem dX5_loudest_27 : decode cX5_loudest 27 = .ok (.ifCond .eq 25, 3) := by decide +kernel
theorem dX5_loudest_30 : decode cX5_loudest 30 = .ok (.aload_n 0, 1) := by decide +kernel
theorem dX5_loudest_31 : decode cX5_loudest 31 = .ok (.getfield 12, 3) := by decide +kernel
theorem dX5_loudest_34 : decode cX5_loudest 34 = .ok (.iload_n 3, 1) := by decide +kernel
theorem dX5_loudest_35 : decode cX5_loudest 35 = .ok (.invokevirtual 190, 3) := by decide +kernel
theorem dX5_loudest_38 : decode cX5_loudest 38 = .ok (.fstore 4, 2) := by decide +kernel
theorem dX5_loudest_40 : decode cX5_loudest 40 = .ok (.fload 4, 2) := by decide +kernel
theorem dX5_loudest_42 : decode cX5_loudest 42 = .ok (.fload_n 2, 1) := by decide +kernel
theorem dX5_loudest_43 : decode cX5_loudest 43 = .ok (.fcmp .l, 1) := by decide +kernel
theorem dX5_loudest_44 : decode cX5_loudest 44 = .ok (.ifCond .le 8, 3) := by decide +kernel
theorem dX5_loudest_47 : decode cX5_loudest 47 = .ok (.fload 4, 2) := by decide +kernel
theorem dX5_loudest_49 : decode cX5_loudest 49 = .ok (.fstore_n 2, 1) := by decide +kernel
theorem dX5_loudest_50 : decode cX5_loudest 50 = .ok (.iload_n 3, 1) := by decide +kernel
theorem dX5_loudest_51 : decode cX5_loudest 51 = .ok (.istore_n 1, 1) := by decide +kernel
theorem dX5_loudest_52 : decode cX5_loudest 52 = .ok (.iinc 3 1, 3) := by decide +kernel
theorem dX5_loudest_55 : decode cX5_loudest 55 = .ok (.goto (-47), 3) := by decide +kernel
theorem dX5_loudest_58 : decode cX5_loudest 58 = .ok (.iload_n 1, 1) := by decide +kernel
theorem dX5_loudest_59 : decode cX5_loudest 59 = .ok (.ireturn, 1) := by decide +kernel
set_option maxRecDepth 20000 in
theorem ggX5_share_X0_isHere : GoodIn wsX5_share wsX0_isHere := goodIn_r _ [8, 9, 10, 11, 12, 13, 14, 15, 16, 37, 38, 39, 40, 41, 42, 43, 44, 45, 46, 47, 48, 49] (by decide +kernel) (by decide +kernel)
set_option maxRecDepth 20000 in
theorem gX5_share_X0_isHere : GoodIn wsX5_share (wsV RX5 70 RX0 yX0_isHere wsX0_isHere) := goodIn_app (goodIn_of _ (by decide +kernel)) ggX5_share_X0_isHere
set_option maxRecDepth 20000 in
theorem ggX5_share_X3_pointsOf : GoodIn wsX5_share wsX3_pointsOf := goodIn_r _ [21, 22, 23, 24, 25, 12, 13, 14, 15, 16, 26, 27, 28, 29, 30, 50, 51, 52, 53, 54, 49] (by decide +kernel) (by decide +kernel)
set_option maxRecDepth 20000 in
theorem gX5_share_X3_pointsOf : GoodIn wsX5_share (wsV RX5 181 RX3 yX3_pointsOf wsX3_pointsOf) := goodIn_app (goodIn_of _ (by decide +kernel)) ggX5_share_X3_pointsOf
theorem dX5_share_0 : decode cX5_share 0 = .ok (.aload_n 0, 1) := by decide +kernel
theorem dX5_share_1 : decode cX5_share 1 = .ok (.getfield 12, 3) := by decide +kernel
theorem dX5_share_4 : decode cX5_share 4 = .ok (.iload_n 1, 1) := by decide +kernel
theorem dX5_share_5 : decode cX5_share 5 = .ok (.invokevirtual 70, 3) := by decide +kernel
theorem dX5_share_8 : decode cX5_share 8 = .ok (.ifCond .ne 6, 3) := by decide +kernel
theorem dX5_share_11 : decode cX5_share 11 = .ok (.ldc 214, 2) := by decide +kernel
theorem dX5_share_13 : decode cX5_share 13 = .ok (.freturn, 1) := by decide +kernel
theorem dX5_share_14 : decode cX5_share 14 = .ok (.aload_n 0, 1) := by decide +kernel
theorem dX5_share_15 : decode cX5_share 15 = .ok (.getfield 12, 3) := by decide +kernel
theorem dX5_share_18 : decode cX5_share 18 = .ok (.getfield 81, 3) := by decide +kernel
theorem dX5_share_21 : decode cX5_share 21 = .ok (.iload_n 1, 1) := by decide +kernel
theorem dX5_share_22 : decode cX5_share 22 = .ok (.invokevirtual 181, 3) := by decide +kernel
theorem dX5_share_25 : decode cX5_share 25 = .ok (.i2f, 1) := by decide +kernel
theorem dX5_share_26 : decode cX5_share 26 = .ok (.ldc 218, 2) := by decide +kernel
theorem dX5_share_28 : decode cX5_share 28 = .ok (.fdiv, 1) := by decide +kernel
theorem dX5_share_29 : decode cX5_share 29 = .ok (.freturn, 1) := by decide +kernel
set_option maxRecDepth 20000 in
theorem ggX5_count_X0_campersHere : GoodIn wsX5_count wsX0_campersHere := goodIn_r _ [8, 9, 10, 11, 12, 13, 14, 15, 16, 52, 53, 54, 55, 56, 57, 58, 59, 60, 61, 62, 63, 74] (by decide +kernel) (by decide +kernel)
set_option maxRecDepth 20000 in
theorem gX5_count_X0_campersHere : GoodIn wsX5_count (wsV RX5 78 RX0 yX0_campersHere wsX0_campersHere) := goodIn_app (goodIn_of _ (by decide +kernel)) ggX5_count_X0_campersHere
set_option maxRecDepth 20000 in
theorem ggX5_count_X3_greatestDepth : GoodIn wsX5_count wsX3_greatestDepth := goodIn_r _ [21, 22, 23, 24, 25, 26, 27, 28, 12, 13, 14, 15, 16, 64, 65, 66, 67, 68, 74] (by decide +kernel) (by decide +kernel)
set_option maxRecDepth 20000 in
theorem gX5_count_X3_greatestDepth : GoodIn wsX5_count (wsV RX5 220 RX3 yX3_greatestDepth wsX3_greatestDepth) := goodIn_app (goodIn_of _ (by decide +kernel)) ggX5_count_X3_greatestDepth
set_option maxRecDepth 20000 in
theorem ggX5_count_X3_leastDepth : GoodIn wsX5_count wsX3_leastDepth := goodIn_r _ [32, 22, 23, 33, 34, 26, 35, 28, 12, 13, 14, 15, 16, 64, 65, 66, 67, 68, 74] (by decide +kernel) (by decide +kernel)
set_option maxRecDepth 20000 in
theorem gX5_count_X3_leastDepth : GoodIn wsX5_count (wsV RX5 223 RX3 yX3_leastDepth wsX3_leastDepth) := goodIn_app (goodIn_of _ (by decide +kernel)) ggX5_count_X3_leastDepth
set_option maxRecDepth 20000 in
theorem ggX5_count_X0_campersWithMorePlots : GoodIn wsX5_count wsX0_campersWithMorePlots := goodIn_r _ [39, 9, 40, 41, 42, 43, 20, 44, 22, 45, 28, 12, 13, 14, 15, 16, 52, 53, 54, 55, 56, 57, 58, 59, 60, 61, 62, 63, 64, 65, 66, 67, 68, 74] (by decide +kernel) (by decide +kernel)
set_option maxRecDepth 20000 in
theorem gX5_count_X0_campersWithMorePlots : GoodIn wsX5_count (wsV RX5 226 RX0 yX0_campersWithMorePlots wsX0_campersWithMorePlots) := goodIn_app (goodIn_of _ (by decide +kernel)) ggX5_count_X0_campersWithMorePlots
theorem dX5_count_0 : decode cX5_count 0 = .ok (.iload_n 1, 1) := by decide +kernel
theorem dX5_count_1 : decode cX5_count 1 = .ok (.tableswitch 168 0 11 #[63, 71, 79, 90, 98, 109, 120, 128, 136, 144, 152, 160], 63) := by decide +kernel
theorem dX5_count_64 : decode cX5_count 64 = .ok (.aload_n 0, 1) := by decide +kernel
theorem dX5_count_65 : decode cX5_count 65 = .ok (.getfield 12, 3) := by decide +kernel
theorem dX5_count_68 : decode cX5_count 68 = .ok (.invokevirtual 78, 3) := by decide +kernel
theorem dX5_count_71 : decode cX5_count 71 = .ok (.ireturn, 1) := by decide +kernel
theorem dX5_count_72 : decode cX5_count 72 = .ok (.aload_n 0, 1) := by decide +kernel
theorem dX5_count_73 : decode cX5_count 73 = .ok (.getfield 12, 3) := by decide +kernel
theorem dX5_count_76 : decode cX5_count 76 = .ok (.getfield 215, 3) := by decide +kernel
theorem dX5_count_79 : decode cX5_count 79 = .ok (.ireturn, 1) := by decide +kernel
theorem dX5_count_80 : decode cX5_count 80 = .ok (.aload_n 0, 1) := by decide +kernel
theorem dX5_count_81 : decode cX5_count 81 = .ok (.getfield 12, 3) := by decide +kernel
theorem dX5_count_84 : decode cX5_count 84 = .ok (.getfield 81, 3) := by decide +kernel
theorem dX5_count_87 : decode cX5_count 87 = .ok (.getfield 219, 3) := by decide +kernel
theorem dX5_count_90 : decode cX5_count 90 = .ok (.ireturn, 1) := by decide +kernel
theorem dX5_count_91 : decode cX5_count 91 = .ok (.aload_n 0, 1) := by decide +kernel
theorem dX5_count_92 : decode cX5_count 92 = .ok (.getfield 12, 3) := by decide +kernel
theorem dX5_count_95 : decode cX5_count 95 = .ok (.getfield 125, 3) := by decide +kernel
theorem dX5_count_98 : decode cX5_count 98 = .ok (.ireturn, 1) := by decide +kernel
theorem dX5_count_99 : decode cX5_count 99 = .ok (.aload_n 0, 1) := by decide +kernel
theorem dX5_count_100 : decode cX5_count 100 = .ok (.getfield 12, 3) := by decide +kernel
theorem dX5_count_103 : decode cX5_count 103 = .ok (.getfield 81, 3) := by decide +kernel
theorem dX5_count_106 : decode cX5_count 106 = .ok (.invokevirtual 220, 3) := by decide +kernel
theorem dX5_count_109 : decode cX5_count 109 = .ok (.ireturn, 1) := by decide +kernel
theorem dX5_count_110 : decode cX5_count 110 = .ok (.aload_n 0, 1) := by decide +kernel
theorem dX5_count_111 : decode cX5_count 111 = .ok (.getfield 12, 3) := by decide +kernel
theorem dX5_count_114 : decode cX5_count 114 = .ok (.getfield 81, 3) := by decide +kernel
theorem dX5_count_117 : decode cX5_count 117 = .ok (.invokevirtual 223, 3) := by decide +kernel
theorem dX5_count_120 : decode cX5_count 120 = .ok (.ireturn, 1) := by decide +kernel
theorem dX5_count_121 : decode cX5_count 121 = .ok (.aload_n 0, 1) := by decide +kernel
theorem dX5_count_122 : decode cX5_count 122 = .ok (.getfield 12, 3) := by decide +kernel
theorem dX5_count_125 : decode cX5_count 125 = .ok (.invokevirtual 226, 3) := by decide +kernel
theorem dX5_count_128 : decode cX5_count 128 = .ok (.ireturn, 1) := by decide +kernel
theorem dX5_count_129 : decode cX5_count 129 = .ok (.aload_n 0, 1) := by decide +kernel
theorem dX5_count_130 : decode cX5_count 130 = .ok (.getfield 12, 3) := by decide +kernel
theorem dX5_count_133 : decode cX5_count 133 = .ok (.getfield 229, 3) := by decide +kernel
theorem dX5_count_136 : decode cX5_count 136 = .ok (.ireturn, 1) := by decide +kernel
theorem dX5_count_137 : decode cX5_count 137 = .ok (.aload_n 0, 1) := by decide +kernel
theorem dX5_count_138 : decode cX5_count 138 = .ok (.getfield 12, 3) := by decide +kernel
theorem dX5_count_141 : decode cX5_count 141 = .ok (.getfield 232, 3) := by decide +kernel
theorem dX5_count_144 : decode cX5_count 144 = .ok (.ireturn, 1) := by decide +kernel
theorem dX5_count_145 : decode cX5_count 145 = .ok (.aload_n 0, 1) := by decide +kernel
theorem dX5_count_146 : decode cX5_count 146 = .ok (.getfield 12, 3) := by decide +kernel
theorem dX5_count_149 : decode cX5_count 149 = .ok (.getfield 235, 3) := by decide +kernel
theorem dX5_count_152 : decode cX5_count 152 = .ok (.ireturn, 1) := by decide +kernel
theorem dX5_count_153 : decode cX5_count 153 = .ok (.aload_n 0, 1) := by decide +kernel
theorem dX5_count_154 : decode cX5_count 154 = .ok (.getfield 25, 3) := by decide +kernel
theorem dX5_count_157 : decode cX5_count 157 = .ok (.getfield 154, 3) := by decide +kernel
theorem dX5_count_160 : decode cX5_count 160 = .ok (.ireturn, 1) := by decide +kernel
theorem dX5_count_161 : decode cX5_count 161 = .ok (.aload_n 0, 1) := by decide +kernel
theorem dX5_count_162 : decode cX5_count 162 = .ok (.getfield 32, 3) := by decide +kernel
theorem dX5_count_165 : decode cX5_count 165 = .ok (.getfield 151, 3) := by decide +kernel
theorem dX5_count_168 : decode cX5_count 168 = .ok (.ireturn, 1) := by decide +kernel
theorem dX5_count_169 : decode cX5_count 169 = .ok (.bipush (-2), 2) := by decide +kernel
theorem dX5_count_171 : decode cX5_count 171 = .ok (.ireturn, 1) := by decide +kernel
set_option maxRecDepth 20000 in
theorem ggX5_toldOwnerOf_X0_ownerOfSong : GoodIn wsX5_toldOwnerOf wsX0_ownerOfSong := goodIn_r _ [6, 7, 8, 9, 10, 11, 12, 13, 14, 15, 16, 17, 18, 19, 20, 21, 22, 23, 24, 25, 26, 27, 28, 29, 30, 31, 32, 33, 34, 35, 36, 37, 38, 39, 46, 47, 48, 49, 50, 51, 52, 53, 54, 55, 56, 57, 58, 59, 60, 61, 62, 63] (by decide +kernel) (by decide +kernel)
set_option maxRecDepth 20000 in
theorem gX5_toldOwnerOf_X0_ownerOfSong : GoodIn wsX5_toldOwnerOf (wsV RX5 238 RX0 yX0_ownerOfSong wsX0_ownerOfSong) := goodIn_app (goodIn_of _ (by decide +kernel)) ggX5_toldOwnerOf_X0_ownerOfSong
theorem dX5_toldOwnerOf_0 : decode cX5_toldOwnerOf 0 = .ok (.aload_n 0, 1) := by decide +kernel
theorem dX5_toldOwnerOf_1 : decode cX5_toldOwnerOf 1 = .ok (.getfield 12, 3) := by decide +kernel
theorem dX5_toldOwnerOf_4 : decode cX5_toldOwnerOf 4 = .ok (.iload_n 1, 1) := by decide +kernel
theorem dX5_toldOwnerOf_5 : decode cX5_toldOwnerOf 5 = .ok (.invokevirtual 238, 3) := by decide +kernel
theorem dX5_toldOwnerOf_8 : decode cX5_toldOwnerOf 8 = .ok (.istore_n 2, 1) := by decide +kernel
theorem dX5_toldOwnerOf_9 : decode cX5_toldOwnerOf 9 = .ok (.iload_n 2, 1) := by decide +kernel
theorem dX5_toldOwnerOf_10 : decode cX5_toldOwnerOf 10 = .ok (.iconst (-1), 1) := by decide +kernel
theorem dX5_toldOwnerOf_11 : decode cX5_toldOwnerOf 11 = .ok (.if_icmp .ne 8, 3) := by decide +kernel
theorem dX5_toldOwnerOf_14 : decode cX5_toldOwnerOf 14 = .ok (.bipush 100, 2) := by decide +kernel
theorem dX5_toldOwnerOf_16 : decode cX5_toldOwnerOf 16 = .ok (.goto 4, 3) := by decide +kernel
theorem dX5_toldOwnerOf_19 : decode cX5_toldOwnerOf 19 = .ok (.iload_n 2, 1) := by decide +kernel
theorem dX5_toldOwnerOf_20 : decode cX5_toldOwnerOf 20 = .ok (.ireturn, 1) := by decide +kernel
theorem dX5_orNone_0 : decode cX5_orNone 0 = .ok (.iload_n 0, 1) := by decide +kernel
theorem dX5_orNone_1 : decode cX5_orNone 1 = .ok (.iconst (-1), 1) := by decide +kernel
theorem dX5_orNone_2 : decode cX5_orNone 2 = .ok (.if_icmp .ne 8, 3) := by decide +kernel
theorem dX5_orNone_5 : decode cX5_orNone 5 = .ok (.bipush (-5), 2) := by decide +kernel
theorem dX5_orNone_7 : decode cX5_orNone 7 = .ok (.goto 4, 3) := by decide +kernel
theorem dX5_orNone_10 : decode cX5_orNone 10 = .ok (.iload_n 0, 1) := by decide +kernel
theorem dX5_orNone_11 : decode cX5_orNone 11 = .ok (.ireturn, 1) := by decide +kernel
theorem dX5_isPoint_0 : decode cX5_isPoint 0 = .ok (.iload_n 0, 1) := by decide +kernel
theorem dX5_isPoint_1 : decode cX5_isPoint 1 = .ok (.ifCond .lt 23, 3) := by decide +kernel
theorem dX5_isPoint_4 : decode cX5_isPoint 4 = .ok (.iload_n 0, 1) := by decide +kernel
theorem dX5_isPoint_5 : decode cX5_isPoint 5 = .ok (.bipush 64, 2) := by decide +kernel
theorem dX5_isPoint_7 : decode cX5_isPoint 7 = .ok (.if_icmp .ge 17, 3) := by decide +kernel
theorem dX5_isPoint_10 : decode cX5_isPoint 10 = .ok (.iload_n 1, 1) := by decide +kernel
theorem dX5_isPoint_11 : decode cX5_isPoint 11 = .ok (.ifCond .lt 13, 3) := by decide +kernel
theorem dX5_isPoint_14 : decode cX5_isPoint 14 = .ok (.iload_n 1, 1) := by decide +kernel
theorem dX5_isPoint_15 : decode cX5_isPoint 15 = .ok (.bipush 64, 2) := by decide +kernel
theorem dX5_isPoint_17 : decode cX5_isPoint 17 = .ok (.if_icmp .ge 7, 3) := by decide +kernel
theorem dX5_isPoint_20 : decode cX5_isPoint 20 = .ok (.iconst 1, 1) := by decide +kernel
theorem dX5_isPoint_21 : decode cX5_isPoint 21 = .ok (.goto 4, 3) := by decide +kernel
theorem dX5_isPoint_24 : decode cX5_isPoint 24 = .ok (.iconst 0, 1) := by decide +kernel
theorem dX5_isPoint_25 : decode cX5_isPoint 25 = .ok (.ireturn, 1) := by decide +kernel
set_option maxRecDepth 20000 in
theorem ggX5_isMarked_X5_markOf : GoodIn wsX5_isMarked wsX5_markOf := goodIn_r _ [4] (by decide +kernel) (by decide +kernel)
set_option maxRecDepth 20000 in
theorem gX5_isMarked_X5_markOf : GoodIn wsX5_isMarked (va_wsS RX5 241 yX5_markOf wsX5_markOf) := goodIn_app (goodIn_of _ (by decide +kernel)) ggX5_isMarked_X5_markOf
theorem dX5_isMarked_0 : decode cX5_isMarked 0 = .ok (.iload_n 0, 1) := by decide +kernel
theorem dX5_isMarked_1 : decode cX5_isMarked 1 = .ok (.iload_n 1, 1) := by decide +kernel
theorem dX5_isMarked_2 : decode cX5_isMarked 2 = .ok (.invokestatic 241, 3) := by decide +kernel
theorem dX5_isMarked_5 : decode cX5_isMarked 5 = .ok (.iand, 1) := by decide +kernel
theorem dX5_isMarked_6 : decode cX5_isMarked 6 = .ok (.ifCond .eq 7, 3) := by decide +kernel
theorem dX5_isMarked_9 : decode cX5_isMarked 9 = .ok (.iconst 1, 1) := by decide +kernel
theorem dX5_isMarked_10 : decode cX5_isMarked 10 = .ok (.goto 4, 3) := by decide +kernel
theorem dX5_isMarked_13 : decode cX5_isMarked 13 = .ok (.iconst 0, 1) := by decide +kernel
theorem dX5_isMarked_14 : decode cX5_isMarked 14 = .ok (.ireturn, 1) := by decide +kernel
theorem dX5_markOf_0 : decode cX5_markOf 0 = .ok (.iload_n 0, 1) := by decide +kernel
theorem dX5_markOf_1 : decode cX5_markOf 1 = .ok (.ifCond .lt 15, 3) := by decide +kernel
theorem dX5_markOf_4 : decode cX5_markOf 4 = .ok (.iload_n 0, 1) := by decide +kernel
theorem dX5_markOf_5 : decode cX5_markOf 5 = .ok (.bipush 16, 2) := by decide +kernel
theorem dX5_markOf_7 : decode cX5_markOf 7 = .ok (.if_icmp .ge 9, 3) := by decide +kernel
theorem dX5_markOf_10 : decode cX5_markOf 10 = .ok (.iconst 1, 1) := by decide +kernel
theorem dX5_markOf_11 : decode cX5_markOf 11 = .ok (.iload_n 0, 1) := by decide +kernel
theorem dX5_markOf_12 : decode cX5_markOf 12 = .ok (.ishl, 1) := by decide +kernel
theorem dX5_markOf_13 : decode cX5_markOf 13 = .ok (.goto 4, 3) := by decide +kernel
theorem dX5_markOf_16 : decode cX5_markOf 16 = .ok (.iconst 0, 1) := by decide +kernel
theorem dX5_markOf_17 : decode cX5_markOf 17 = .ok (.ireturn, 1) := by decide +kernel
theorem dX5_widthAt_0 : decode cX5_widthAt 0 = .ok (.bipush 64, 2) := by decide +kernel
theorem dX5_widthAt_2 : decode cX5_widthAt 2 = .ok (.iload_n 0, 1) := by decide +kernel
theorem dX5_widthAt_3 : decode cX5_widthAt 3 = .ok (.iconst 1, 1) := by decide +kernel
theorem dX5_widthAt_4 : decode cX5_widthAt 4 = .ok (.iadd, 1) := by decide +kernel
theorem dX5_widthAt_5 : decode cX5_widthAt 5 = .ok (.iconst 1, 1) := by decide +kernel
theorem dX5_widthAt_6 : decode cX5_widthAt 6 = .ok (.ishr, 1) := by decide +kernel
theorem dX5_widthAt_7 : decode cX5_widthAt 7 = .ok (.ishr, 1) := by decide +kernel
theorem dX5_widthAt_8 : decode cX5_widthAt 8 = .ok (.ireturn, 1) := by decide +kernel
theorem dX5_heightAt_0 : decode cX5_heightAt 0 = .ok (.bipush 64, 2) := by decide +kernel
theorem dX5_heightAt_2 : decode cX5_heightAt 2 = .ok (.iload_n 0, 1) := by decide +kernel
theorem dX5_heightAt_3 : decode cX5_heightAt 3 = .ok (.iconst 1, 1) := by decide +kernel
theorem dX5_heightAt_4 : decode cX5_heightAt 4 = .ok (.ishr, 1) := by decide +kernel
theorem dX5_heightAt_5 : decode cX5_heightAt 5 = .ok (.ishr, 1) := by decide +kernel
theorem dX5_heightAt_6 : decode cX5_heightAt 6 = .ok (.ireturn, 1) := by decide +kernel
set_option maxRecDepth 20000 in
theorem ggX5_partX0_X5_widthAt : GoodIn wsX5_partX0 wsX5_widthAt := goodIn_r _ [4] (by decide +kernel) (by decide +kernel)
set_option maxRecDepth 20000 in
theorem gX5_partX0_X5_widthAt : GoodIn wsX5_partX0 (va_wsS RX5 244 yX5_widthAt wsX5_widthAt) := goodIn_app (goodIn_of _ (by decide +kernel)) ggX5_partX0_X5_widthAt
theorem dX5_partX0_0 : decode cX5_partX0 0 = .ok (.iload_n 0, 1) := by decide +kernel
theorem dX5_partX0_1 : decode cX5_partX0 1 = .ok (.iload_n 1, 1) := by decide +kernel
theorem dX5_partX0_2 : decode cX5_partX0 2 = .ok (.invokestatic 244, 3) := by decide +kernel
theorem dX5_partX0_5 : decode cX5_partX0 5 = .ok (.ineg, 1) := by decide +kernel
theorem dX5_partX0_6 : decode cX5_partX0 6 = .ok (.iand, 1) := by decide +kernel
theorem dX5_partX0_7 : decode cX5_partX0 7 = .ok (.ireturn, 1) := by decide +kernel
set_option maxRecDepth 20000 in
theorem ggX5_partY0_X5_heightAt : GoodIn wsX5_partY0 wsX5_heightAt := goodIn_r _ [4] (by decide +kernel) (by decide +kernel)
set_option maxRecDepth 20000 in
theorem gX5_partY0_X5_heightAt : GoodIn wsX5_partY0 (va_wsS RX5 247 yX5_heightAt wsX5_heightAt) := goodIn_app (goodIn_of _ (by decide +kernel)) ggX5_partY0_X5_heightAt
theorem dX5_partY0_0 : decode cX5_partY0 0 = .ok (.iload_n 0, 1) := by decide +kernel
theorem dX5_partY0_1 : decode cX5_partY0 1 = .ok (.iload_n 1, 1) := by decide +kernel
theorem dX5_partY0_2 : decode cX5_partY0 2 = .ok (.invokestatic 247, 3) := by decide +kernel
theorem dX5_partY0_5 : decode cX5_partY0 5 = .ok (.ineg, 1) := by decide +kernel
theorem dX5_partY0_6 : decode cX5_partY0 6 = .ok (.iand, 1) := by decide +kernel
theorem dX5_partY0_7 : decode cX5_partY0 7 = .ok (.ireturn, 1) := by decide +kernel
set_option maxRecDepth 20000 in
theorem ggX5_otherHalfX0_X5_widthAt : GoodIn wsX5_otherHalfX0 wsX5_widthAt := goodIn_r _ [4] (by decide +kernel) (by decide +kernel)
set_option maxRecDepth 20000 in
theorem gX5_otherHalfX0_X5_widthAt : GoodIn wsX5_otherHalfX0 (va_wsS RX5 244 yX5_widthAt wsX5_widthAt) := goodIn_app (goodIn_of _ (by decide +kernel)) ggX5_otherHalfX0_X5_widthAt
theorem dX5_otherHalfX0_0 : decode cX5_otherHalfX0 0 = .ok (.iload_n 1, 1) := by decide +kernel
theorem dX5_otherHalfX0_1 : decode cX5_otherHalfX0 1 = .ok (.iconst 1, 1) := by decide +kernel
theorem dX5_otherHalfX0_2 : decode cX5_otherHalfX0 2 = .ok (.iand, 1) := by decide +kernel
theorem dX5_otherHalfX0_3 : decode cX5_otherHalfX0 3 = .ok (.iconst 1, 1) := by decide +kernel
theorem dX5_otherHalfX0_4 : decode cX5_otherHalfX0 4 = .ok (.if_icmp .ne 12, 3) := by decide +kernel
theorem dX5_otherHalfX0_7 : decode cX5_otherHalfX0 7 = .ok (.iload_n 0, 1) := by decide +kernel
theorem dX5_otherHalfX0_8 : decode cX5_otherHalfX0 8 = .ok (.iload_n 1, 1) := by decide +kernel
theorem dX5_otherHalfX0_9 : decode cX5_otherHalfX0 9 = .ok (.invokestatic 244, 3) := by decide +kernel
theorem dX5_otherHalfX0_12 : decode cX5_otherHalfX0 12 = .ok (.ixor, 1) := by decide +kernel
theorem dX5_otherHalfX0_13 : decode cX5_otherHalfX0 13 = .ok (.goto 4, 3) := by decide +kernel
theorem dX5_otherHalfX0_16 : decode cX5_otherHalfX0 16 = .ok (.iload_n 0, 1) := by decide +kernel
theorem dX5_otherHalfX0_17 : decode cX5_otherHalfX0 17 = .ok (.ireturn, 1) := by decide +kernel
set_option maxRecDepth 20000 in
theorem ggX5_otherHalfY0_X5_heightAt : GoodIn wsX5_otherHalfY0 wsX5_heightAt := goodIn_r _ [4] (by decide +kernel) (by decide +kernel)
set_option maxRecDepth 20000 in
theorem gX5_otherHalfY0_X5_heightAt : GoodIn wsX5_otherHalfY0 (va_wsS RX5 247 yX5_heightAt wsX5_heightAt) := goodIn_app (goodIn_of _ (by decide +kernel)) ggX5_otherHalfY0_X5_heightAt
theorem dX5_otherHalfY0_0 : decode cX5_otherHalfY0 0 = .ok (.iload_n 1, 1) := by decide +kernel
theorem dX5_otherHalfY0_1 : decode cX5_otherHalfY0 1 = .ok (.iconst 1, 1) := by decide +kernel
theorem dX5_otherHalfY0_2 : decode cX5_otherHalfY0 2 = .ok (.iand, 1) := by decide +kernel
theorem dX5_otherHalfY0_3 : decode cX5_otherHalfY0 3 = .ok (.ifCond .ne 12, 3) := by decide +kernel
theorem dX5_otherHalfY0_6 : decode cX5_otherHalfY0 6 = .ok (.iload_n 0, 1) := by decide +kernel
theorem dX5_otherHalfY0_7 : decode cX5_otherHalfY0 7 = .ok (.iload_n 1, 1) := by decide +kernel
theorem dX5_otherHalfY0_8 : decode cX5_otherHalfY0 8 = .ok (.invokestatic 247, 3) := by decide +kernel
theorem dX5_otherHalfY0_11 : decode cX5_otherHalfY0 11 = .ok (.ixor, 1) := by decide +kernel
theorem dX5_otherHalfY0_12 : decode cX5_otherHalfY0 12 = .ok (.goto 4, 3) := by decide +kernel
theorem dX5_otherHalfY0_15 : decode cX5_otherHalfY0 15 = .ok (.iload_n 0, 1) := by decide +kernel
theorem dX5_otherHalfY0_16 : decode cX5_otherHalfY0 16 = .ok (.ireturn, 1) := by decide +kernel
theorem dX5_bitsOf_0 : decode cX5_bitsOf 0 = .ok (.fload_n 0, 1) := by decide +kernel
theorem dX5_bitsOf_1 : decode cX5_bitsOf 1 = .ok (.fconst 0, 1) := by decide +kernel
theorem dX5_bitsOf_2 : decode cX5_bitsOf 2 = .ok (.fcmp .g, 1) := by decide +kernel
theorem dX5_bitsOf_3 : decode cX5_bitsOf 3 = .ok (.ifCond .gt 5, 3) := by decide +kernel
theorem dX5_bitsOf_6 : decode cX5_bitsOf 6 = .ok (.iconst 0, 1) := by decide +kernel
theorem dX5_bitsOf_7 : decode cX5_bitsOf 7 = .ok (.ireturn, 1) := by decide +kernel
theorem dX5_bitsOf_8 : decode cX5_bitsOf 8 = .ok (.fload_n 0, 1) := by decide +kernel
theorem dX5_bitsOf_9 : decode cX5_bitsOf 9 = .ok (.fstore_n 1, 1) := by decide +kernel
theorem dX5_bitsOf_10 : decode cX5_bitsOf 10 = .ok (.bipush 127, 2) := by decide +kernel
theorem dX5_bitsOf_12 : decode cX5_bitsOf 12 = .ok (.istore_n 2, 1) := by decide +kernel
theorem dX5_bitsOf_13 : decode cX5_bitsOf 13 = .ok (.iconst 0, 1) := by decide +kernel
theorem dX5_bitsOf_14 : decode cX5_bitsOf 14 = .ok (.istore_n 3, 1) := by decide +kernel
theorem dX5_bitsOf_15 : decode cX5_bitsOf 15 = .ok (.iload_n 3, 1) := by decide +kernel
theorem dX5_bitsOf_16 : decode cX5_bitsOf 16 = .ok (.bipush 127, 2) := by decide +kernel
theorem dX5_bitsOf_18 : decode cX5_bitsOf 18 = .ok (.if_icmp .ge 22, 3) := by decide +kernel
theorem dX5_bitsOf_21 : decode cX5_bitsOf 21 = .ok (.fload_n 1, 1) := by decide +kernel
theorem dX5_bitsOf_22 : decode cX5_bitsOf 22 = .ok (.fconst 2, 1) := by decide +kernel
theorem dX5_bitsOf_23 : decode cX5_bitsOf 23 = .ok (.fcmp .l, 1) := by decide +kernel
theorem dX5_bitsOf_24 : decode cX5_bitsOf 24 = .ok (.ifCond .lt 16, 3) := by decide +kernel
theorem dX5_bitsOf_27 : decode cX5_bitsOf 27 = .ok (.fload_n 1, 1) := by decide +kernel
theorem dX5_bitsOf_28 : decode cX5_bitsOf 28 = .ok (.fconst 2, 1) := by decide +kernel
theorem dX5_bitsOf_29 : decode cX5_bitsOf 29 = .ok (.fdiv, 1) := by decide +kernel
theorem dX5_bitsOf_30 : decode cX5_bitsOf 30 = .ok (.fstore_n 1, 1) := by decide +kernel
theorem dX5_bitsOf_31 : decode cX5_bitsOf 31 = .ok (.iinc 2 1, 3) := by decide +kernel
theorem dX5_bitsOf_34 : decode cX5_bitsOf 34 = .ok (.iinc 3 1, 3) := by decide +kernel
theorem dX5_bitsOf_37 : decode cX5_bitsOf 37 = .ok (.goto (-22), 3) := by decide +kernel
theorem dX5_bitsOf_40 : decode cX5_bitsOf 40 = .ok (.iconst 0, 1) := by decide +kernel
theorem dX5_bitsOf_41 : decode cX5_bitsOf 41 = .ok (.istore_n 3, 1) := by decide +kernel
theorem dX5_bitsOf_42 : decode cX5_bitsOf 42 = .ok (.iload_n 3, 1) := by decide +kernel
theorem dX5_bitsOf_43 : decode cX5_bitsOf 43 = .ok (.bipush 127, 2) := by decide +kernel
theorem dX5_bitsOf_45 : decode cX5_bitsOf 45 = .ok (.if_icmp .ge 22, 3) := by decide +kernel
theorem dX5_bitsOf_48 : decode cX5_bitsOf 48 = .ok (.fload_n 1, 1) := by decide +kernel
theorem dX5_bitsOf_49 : decode cX5_bitsOf 49 = .ok (.fconst 1, 1) := by decide +kernel
theorem dX5_bitsOf_50 : decode cX5_bitsOf 50 = .ok (.fcmp .g, 1) := by decide +kernel
theorem dX5_bitsOf_51 : decode cX5_bitsOf 51 = .ok (.ifCond .ge 16, 3) := by decide +kernel
theorem dX5_bitsOf_54 : decode cX5_bitsOf 54 = .ok (.fload_n 1, 1) := by decide +kernel
theorem dX5_bitsOf_55 : decode cX5_bitsOf 55 = .ok (.fconst 2, 1) := by decide +kernel
theorem dX5_bitsOf_56 : decode cX5_bitsOf 56 = .ok (.fmul, 1) := by decide +kernel
theorem dX5_bitsOf_57 : decode cX5_bitsOf 57 = .ok (.fstore_n 1, 1) := by decide +kernel
theorem dX5_bitsOf_58 : decode cX5_bitsOf 58 = .ok (.iinc 2 (-1), 3) := by decide +kernel
theorem dX5_bitsOf_61 : decode cX5_bitsOf 61 = .ok (.iinc 3 1, 3) := by decide +kernel
theorem dX5_bitsOf_64 : decode cX5_bitsOf 64 = .ok (.goto (-22), 3) := by decide +kernel
theorem dX5_bitsOf_67 : decode cX5_bitsOf 67 = .ok (.iload_n 2, 1) := by decide +kernel
theorem dX5_bitsOf_68 : decode cX5_bitsOf 68 = .ok (.bipush 23, 2) := by decide +kernel
theorem dX5_bitsOf_70 : decode cX5_bitsOf 70 = .ok (.ishl, 1) := by decide +kernel
theorem dX5_bitsOf_71 : decode cX5_bitsOf 71 = .ok (.fload_n 1, 1) := by decide +kernel
theorem dX5_bitsOf_72 : decode cX5_bitsOf 72 = .ok (.fconst 1, 1) := by decide +kernel
theorem dX5_bitsOf_73 : decode cX5_bitsOf 73 = .ok (.fsub, 1) := by decide +kernel
theorem dX5_bitsOf_74 : decode cX5_bitsOf 74 = .ok (.ldc 250, 2) := by decide +kernel
theorem dX5_bitsOf_76 : decode cX5_bitsOf 76 = .ok (.fmul, 1) := by decide +kernel
theorem dX5_bitsOf_77 : decode cX5_bitsOf 77 = .ok (.f2i, 1) := by decide +kernel
theorem dX5_bitsOf_78 : decode cX5_bitsOf 78 = .ok (.iadd, 1) := by decide +kernel
theorem dX5_bitsOf_79 : decode cX5_bitsOf 79 = .ok (.ireturn, 1) := by decide +kernel
theorem dX6_init_0 : decode cX6_init 0 = .ok (.aload_n 0, 1) := by decide +kernel
theorem dX6_init_1 : decode cX6_init 1 = .ok (.invokespecial 1, 3) := by decide +kernel
theorem dX6_init_4 : decode cX6_init 4 = .ok (.aload_n 0, 1) := by decide +kernel
theorem dX6_init_5 : decode cX6_init 5 = .ok (.sipush 886, 3) := by decide +kernel
theorem dX6_init_8 : decode cX6_init 8 = .ok (.newarray .int, 2) := by decide +kernel
theorem dX6_init_10 : decode cX6_init 10 = .ok (.putfield 7, 3) := by decide +kernel
theorem dX6_init_13 : decode cX6_init 13 = .ok (.aload_n 0, 1) := by decide +kernel
theorem dX6_init_14 : decode cX6_init 14 = .ok (.sipush 886, 3) := by decide +kernel
theorem dX6_init_17 : decode cX6_init 17 = .ok (.newarray .int, 2) := by decide +kernel
theorem dX6_init_19 : decode cX6_init 19 = .ok (.putfield 13, 3) := by decide +kernel
theorem dX6_init_22 : decode cX6_init 22 = .ok (.aload_n 0, 1) := by decide +kernel
theorem dX6_init_23 : decode cX6_init 23 = .ok (.sipush 3544, 3) := by decide +kernel
theorem dX6_init_26 : decode cX6_init 26 = .ok (.newarray .int, 2) := by decide +kernel
theorem dX6_init_28 : decode cX6_init 28 = .ok (.putfield 16, 3) := by decide +kernel
theorem dX6_init_31 : decode cX6_init 31 = .ok (.aload_n 0, 1) := by decide +kernel
theorem dX6_init_32 : decode cX6_init 32 = .ok (.sipush 886, 3) := by decide +kernel
theorem dX6_init_35 : decode cX6_init 35 = .ok (.newarray .int, 2) := by decide +kernel
theorem dX6_init_37 : decode cX6_init 37 = .ok (.putfield 19, 3) := by decide +kernel
theorem dX6_init_40 : decode cX6_init 40 = .ok (.aload_n 0, 1) := by decide +kernel
theorem dX6_init_41 : decode cX6_init 41 = .ok (.bipush 60, 2) := by decide +kernel
theorem dX6_init_43 : decode cX6_init 43 = .ok (.newarray .int, 2) := by decide +kernel
theorem dX6_init_45 : decode cX6_init 45 = .ok (.putfield 22, 3) := by decide +kernel
theorem dX6_init_48 : decode cX6_init 48 = .ok (.aload_n 0, 1) := by decide +kernel
theorem dX6_init_49 : decode cX6_init 49 = .ok (.bipush 16, 2) := by decide +kernel
theorem dX6_init_51 : decode cX6_init 51 = .ok (.newarray .int, 2) := by decide +kernel
theorem dX6_init_53 : decode cX6_init 53 = .ok (.putfield 25, 3) := by decide +kernel
theorem dX6_init_56 : decode cX6_init 56 = .ok (.aload_n 0, 1) := by decide +kernel
theorem dX6_init_57 : decode cX6_init 57 = .ok (.bipush 16, 2) := by decide +kernel
theorem dX6_init_59 : decode cX6_init 59 = .ok (.newarray .int, 2) := by decide +kernel
theorem dX6_init_61 : decode cX6_init 61 = .ok (.putfield 28, 3) := by decide +kernel
theorem dX6_init_64 : decode cX6_init 64 = .ok (.aload_n 0, 1) := by decide +kernel
theorem dX6_init_65 : decode cX6_init 65 = .ok (.iconst 0, 1) := by decide +kernel
theorem dX6_init_66 : decode cX6_init 66 = .ok (.putfield 31, 3) := by decide +kernel
theorem dX6_init_69 : decode cX6_init 69 = .ok (.aload_n 0, 1) := by decide +kernel
theorem dX6_init_70 : decode cX6_init 70 = .ok (.getfield 7, 3) := by decide +kernel
theorem dX6_init_73 : decode cX6_init 73 = .ok (.iconst 1, 1) := by decide +kernel
theorem dX6_init_74 : decode cX6_init 74 = .ok (.iconst 1, 1) := by decide +kernel
theorem dX6_init_75 : decode cX6_init 75 = .ok (.iastore, 1) := by decide +kernel
theorem dX6_init_76 : decode cX6_init 76 = .ok (.return_, 1) := by decide +kernel
theorem dX6_in_0 : decode cX6_in 0 = .ok (.iload_n 0, 1) := by decide +kernel
theorem dX6_in_1 : decode cX6_in 1 = .ok (.iload_n 1, 1) := by decide +kernel
theorem dX6_in_2 : decode cX6_in 2 = .ok (.if_icmp .lt 12, 3) := by decide +kernel
theorem dX6_in_5 : decode cX6_in 5 = .ok (.iload_n 0, 1) := by decide +kernel
theorem dX6_in_6 : decode cX6_in 6 = .ok (.iload_n 2, 1) := by decide +kernel
theorem dX6_in_7 : decode cX6_in 7 = .ok (.if_icmp .gt 7, 3) := by decide +kernel
theorem dX6_in_10 : decode cX6_in 10 = .ok (.iconst 1, 1) := by decide +kernel
theorem dX6_in_11 : decode cX6_in 11 = .ok (.goto 4, 3) := by decide +kernel
theorem dX6_in_14 : decode cX6_in 14 = .ok (.iconst 0, 1) := by decide +kernel
theorem dX6_in_15 : decode cX6_in 15 = .ok (.ireturn, 1) := by decide +kernel
set_option maxRecDepth 20000 in
theorem ggX6_isPoint_X6_in : GoodIn wsX6_isPoint wsX6_in := goodIn_r _ [4] (by decide +kernel) (by decide +kernel)
set_option maxRecDepth 20000 in
theorem gX6_isPoint_X6_in : GoodIn wsX6_isPoint (va_wsS RX6 35 yX6_in wsX6_in) := goodIn_app (goodIn_of _ (by decide +kernel)) ggX6_isPoint_X6_in
theorem dX6_isPoint_0 : decode cX6_isPoint 0 = .ok (.iload_n 0, 1) := by decide +kernel
theorem dX6_isPoint_1 : decode cX6_isPoint 1 = .ok (.iconst 0, 1) := by decide +kernel
theorem dX6_isPoint_2 : decode cX6_isPoint 2 = .ok (.bipush 63, 2) := by decide +kernel
theorem dX6_isPoint_4 : decode cX6_isPoint 4 = .ok (.invokestatic 35, 3) := by decide +kernel
theorem dX6_isPoint_7 : decode cX6_isPoint 7 = .ok (.ifCond .eq 17, 3) := by decide +kernel
theorem dX6_isPoint_10 : decode cX6_isPoint 10 = .ok (.iload_n 1, 1) := by decide +kernel
theorem dX6_isPoint_11 : decode cX6_isPoint 11 = .ok (.iconst 0, 1) := by decide +kernel
theorem dX6_isPoint_12 : decode cX6_isPoint 12 = .ok (.bipush 63, 2) := by decide +kernel
theorem dX6_isPoint_14 : decode cX6_isPoint 14 = .ok (.invokestatic 35, 3) := by decide +kernel
theorem dX6_isPoint_17 : decode cX6_isPoint 17 = .ok (.ifCond .eq 7, 3) := by decide +kernel
theorem dX6_isPoint_20 : decode cX6_isPoint 20 = .ok (.iconst 1, 1) := by decide +kernel
theorem dX6_isPoint_21 : decode cX6_isPoint 21 = .ok (.goto 4, 3) := by decide +kernel
theorem dX6_isPoint_24 : decode cX6_isPoint 24 = .ok (.iconst 0, 1) := by decide +kernel
theorem dX6_isPoint_25 : decode cX6_isPoint 25 = .ok (.ireturn, 1) := by decide +kernel
theorem dX6_ofCamper_0 : decode cX6_ofCamper 0 = .ok (.aload_n 0, 1) := by decide +kernel
theorem dX6_ofCamper_1 : decode cX6_ofCamper 1 = .ok (.getfield 7, 3) := by decide +kernel
theorem dX6_ofCamper_4 : decode cX6_ofCamper 4 = .ok (.bipush 6, 2) := by decide +kernel
theorem dX6_ofCamper_6 : decode cX6_ofCamper 6 = .ok (.iconst 3, 1) := by decide +kernel
theorem dX6_ofCamper_7 : decode cX6_ofCamper 7 = .ok (.iload_n 1, 1) := by decide +kernel
theorem dX6_ofCamper_8 : decode cX6_ofCamper 8 = .ok (.imul, 1) := by decide +kernel
theorem dX6_ofCamper_9 : decode cX6_ofCamper 9 = .ok (.iadd, 1) := by decide +kernel
theorem dX6_ofCamper_10 : decode cX6_ofCamper 10 = .ok (.iload_n 2, 1) := by decide +kernel
theorem dX6_ofCamper_11 : decode cX6_ofCamper 11 = .ok (.iadd, 1) := by decide +kernel
theorem dX6_ofCamper_12 : decode cX6_ofCamper 12 = .ok (.iaload, 1) := by decide +kernel
theorem dX6_ofCamper_13 : decode cX6_ofCamper 13 = .ok (.ireturn, 1) := by decide +kernel
theorem dX6_layCamper_0 : decode cX6_layCamper 0 = .ok (.aload_n 0, 1) := by decide +kernel
theorem dX6_layCamper_1 : decode cX6_layCamper 1 = .ok (.getfield 7, 3) := by decide +kernel
theorem dX6_layCamper_4 : decode cX6_layCamper 4 = .ok (.bipush 6, 2) := by decide +kernel
theorem dX6_layCamper_6 : decode cX6_layCamper 6 = .ok (.iconst 3, 1) := by decide +kernel
theorem dX6_layCamper_7 : decode cX6_layCamper 7 = .ok (.iload_n 1, 1) := by decide +kernel
theorem dX6_layCamper_8 : decode cX6_layCamper 8 = .ok (.imul, 1) := by decide +kernel
theorem dX6_layCamper_9 : decode cX6_layCamper 9 = .ok (.iadd, 1) := by decide +kernel
theorem dX6_layCamper_10 : decode cX6_layCamper 10 = .ok (.iload_n 2, 1) := by decide +kernel
theorem dX6_layCamper_11 : decode cX6_layCamper 11 = .ok (.iadd, 1) := by decide +kernel
theorem dX6_layCamper_12 : decode cX6_layCamper 12 = .ok (.iload_n 3, 1) := by decide +kernel
theorem dX6_layCamper_13 : decode cX6_layCamper 13 = .ok (.iastore, 1) := by decide +kernel
theorem dX6_layCamper_14 : decode cX6_layCamper 14 = .ok (.return_, 1) := by decide +kernel
set_option maxRecDepth 20000 in
theorem ggX6_isHere_X6_in : GoodIn wsX6_isHere wsX6_in := goodIn_r _ [4] (by decide +kernel) (by decide +kernel)
set_option maxRecDepth 20000 in
theorem gX6_isHere_X6_in : GoodIn wsX6_isHere (va_wsS RX6 35 yX6_in wsX6_in) := goodIn_app (goodIn_of _ (by decide +kernel)) ggX6_isHere_X6_in
set_option maxRecDepth 20000 in
theorem ggX6_isHere_X6_ofCamper : GoodIn wsX6_isHere wsX6_ofCamper := goodIn_r _ [8, 9, 10, 11, 12, 13, 14, 15, 16, 17, 18, 19, 20, 21, 22, 23] (by decide +kernel) (by decide +kernel)
set_option maxRecDepth 20000 in
theorem gX6_isHere_X6_ofCamper : GoodIn wsX6_isHere (wsV RX6 39 RX6 yX6_ofCamper wsX6_ofCamper) := goodIn_app (goodIn_of _ (by decide +kernel)) ggX6_isHere_X6_ofCamper
theorem dX6_isHere_0 : decode cX6_isHere 0 = .ok (.iload_n 1, 1) := by decide +kernel
theorem dX6_isHere_1 : decode cX6_isHere 1 = .ok (.iconst 0, 1) := by decide +kernel
theorem dX6_isHere_2 : decode cX6_isHere 2 = .ok (.bipush 15, 2) := by decide +kernel
theorem dX6_isHere_4 : decode cX6_isHere 4 = .ok (.invokestatic 35, 3) := by decide +kernel
theorem dX6_isHere_7 : decode cX6_isHere 7 = .ok (.ifCond .eq 17, 3) := by decide +kernel
theorem dX6_isHere_10 : decode cX6_isHere 10 = .ok (.aload_n 0, 1) := by decide +kernel
theorem dX6_isHere_11 : decode cX6_isHere 11 = .ok (.iload_n 1, 1) := by decide +kernel
theorem dX6_isHere_12 : decode cX6_isHere 12 = .ok (.iconst 0, 1) := by decide +kernel
theorem dX6_isHere_13 : decode cX6_isHere 13 = .ok (.invokevirtual 39, 3) := by decide +kernel
theorem dX6_isHere_16 : decode cX6_isHere 16 = .ok (.iconst 1, 1) := by decide +kernel
theorem dX6_isHere_17 : decode cX6_isHere 17 = .ok (.if_icmp .ne 7, 3) := by decide +kernel
theorem dX6_isHere_20 : decode cX6_isHere 20 = .ok (.iconst 1, 1) := by decide +kernel
theorem dX6_isHere_21 : decode cX6_isHere 21 = .ok (.goto 4, 3) := by decide +kernel
theorem dX6_isHere_24 : decode cX6_isHere 24 = .ok (.iconst 0, 1) := by decide +kernel
theorem dX6_isHere_25 : decode cX6_isHere 25 = .ok (.ireturn, 1) := by decide +kernel
theorem dX6_ofPlot_0 : decode cX6_ofPlot 0 = .ok (.aload_n 0, 1) := by decide +kernel
theorem dX6_ofPlot_1 : decode cX6_ofPlot 1 = .ok (.getfield 7, 3) := by decide +kernel
theorem dX6_ofPlot_4 : decode cX6_ofPlot 4 = .ok (.bipush 54, 2) := by decide +kernel
theorem dX6_ofPlot_6 : decode cX6_ofPlot 6 = .ok (.iconst 4, 1) := by decide +kernel
theorem dX6_ofPlot_7 : decode cX6_ofPlot 7 = .ok (.iload_n 1, 1) := by decide +kernel
theorem dX6_ofPlot_8 : decode cX6_ofPlot 8 = .ok (.imul, 1) := by decide +kernel
theorem dX6_ofPlot_9 : decode cX6_ofPlot 9 = .ok (.iadd, 1) := by decide +kernel
theorem dX6_ofPlot_10 : decode cX6_ofPlot 10 = .ok (.iload_n 2, 1) := by decide +kernel
theorem dX6_ofPlot_11 : decode cX6_ofPlot 11 = .ok (.iadd, 1) := by decide +kernel
theorem dX6_ofPlot_12 : decode cX6_ofPlot 12 = .ok (.iaload, 1) := by decide +kernel
theorem dX6_ofPlot_13 : decode cX6_ofPlot 13 = .ok (.ireturn, 1) := by decide +kernel
theorem dX6_layPlot_0 : decode cX6_layPlot 0 = .ok (.aload_n 0, 1) := by decide +kernel
theorem dX6_layPlot_1 : decode cX6_layPlot 1 = .ok (.getfield 7, 3) := by decide +kernel
theorem dX6_layPlot_4 : decode cX6_layPlot 4 = .ok (.bipush 54, 2) := by decide +kernel
theorem dX6_layPlot_6 : decode cX6_layPlot 6 = .ok (.iconst 4, 1) := by decide +kernel
theorem dX6_layPlot_7 : decode cX6_layPlot 7 = .ok (.iload_n 1, 1) := by decide +kernel
theorem dX6_layPlot_8 : decode cX6_layPlot 8 = .ok (.imul, 1) := by decide +kernel
theorem dX6_layPlot_9 : decode cX6_layPlot 9 = .ok (.iadd, 1) := by decide +kernel
theorem dX6_layPlot_10 : decode cX6_layPlot 10 = .ok (.iconst 0, 1) := by decide +kernel
theorem dX6_layPlot_11 : decode cX6_layPlot 11 = .ok (.iadd, 1) := by decide +kernel
theorem dX6_layPlot_12 : decode cX6_layPlot 12 = .ok (.iload_n 2, 1) := by decide +kernel
theorem dX6_layPlot_13 : decode cX6_layPlot 13 = .ok (.iastore, 1) := by decide +kernel
theorem dX6_layPlot_14 : decode cX6_layPlot 14 = .ok (.aload_n 0, 1) := by decide +kernel
theorem dX6_layPlot_15 : decode cX6_layPlot 15 = .ok (.getfield 7, 3) := by decide +kernel
theorem dX6_layPlot_18 : decode cX6_layPlot 18 = .ok (.bipush 54, 2) := by decide +kernel
theorem dX6_layPlot_20 : decode cX6_layPlot 20 = .ok (.iconst 4, 1) := by decide +kernel
theorem dX6_layPlot_21 : decode cX6_layPlot 21 = .ok (.iload_n 1, 1) := by decide +kernel
theorem dX6_layPlot_22 : decode cX6_layPlot 22 = .ok (.imul, 1) := by decide +kernel
theorem dX6_layPlot_23 : decode cX6_layPlot 23 = .ok (.iadd, 1) := by decide +kernel
theorem dX6_layPlot_24 : decode cX6_layPlot 24 = .ok (.iconst 1, 1) := by decide +kernel
theorem dX6_layPlot_25 : decode cX6_layPlot 25 = .ok (.iadd, 1) := by decide +kernel
theorem dX6_layPlot_26 : decode cX6_layPlot 26 = .ok (.iload_n 3, 1) := by decide +kernel
theorem dX6_layPlot_27 : decode cX6_layPlot 27 = .ok (.iastore, 1) := by decide +kernel
theorem dX6_layPlot_28 : decode cX6_layPlot 28 = .ok (.aload_n 0, 1) := by decide +kernel
theorem dX6_layPlot_29 : decode cX6_layPlot 29 = .ok (.getfield 7, 3) := by decide +kernel
theorem dX6_layPlot_32 : decode cX6_layPlot 32 = .ok (.bipush 54, 2) := by decide +kernel
theorem dX6_layPlot_34 : decode cX6_layPlot 34 = .ok (.iconst 4, 1) := by decide +kernel
theorem dX6_layPlot_35 : decode cX6_layPlot 35 = .ok (.iload_n 1, 1) := by decide +kernel
theorem dX6_layPlot_36 : decode cX6_layPlot 36 = .ok (.imul, 1) := by decide +kernel
theorem dX6_layPlot_37 : decode cX6_layPlot 37 = .ok (.iadd, 1) := by decide +kernel
theorem dX6_layPlot_38 : decode cX6_layPlot 38 = .ok (.iconst 2, 1) := by decide +kernel
theorem dX6_layPlot_39 : decode cX6_layPlot 39 = .ok (.iadd, 1) := by decide +kernel
theorem dX6_layPlot_40 : decode cX6_layPlot 40 = .ok (.iload 4, 2) := by decide +kernel
theorem dX6_layPlot_42 : decode cX6_layPlot 42 = .ok (.iastore, 1) := by decide +kernel
theorem dX6_layPlot_43 : decode cX6_layPlot 43 = .ok (.aload_n 0, 1) := by decide +kernel
theorem dX6_layPlot_44 : decode cX6_layPlot 44 = .ok (.getfield 7, 3) := by decide +kernel
theorem dX6_layPlot_47 : decode cX6_layPlot 47 = .ok (.bipush 54, 2) := by decide +kernel
theorem dX6_layPlot_49 : decode cX6_layPlot 49 = .ok (.iconst 4, 1) := by decide +kernel
theorem dX6_layPlot_50 : decode cX6_layPlot 50 = .ok (.iload_n 1, 1) := by decide +kernel
theorem dX6_layPlot_51 : decode cX6_layPlot 51 = .ok (.imul, 1) := by decide +kernel
theorem dX6_layPlot_52 : decode cX6_layPlot 52 = .ok (.iadd, 1) := by decide +kernel
theorem dX6_layPlot_53 : decode cX6_layPlot 53 = .ok (.iconst 3, 1) := by decide +kernel
theorem dX6_layPlot_54 : decode cX6_layPlot 54 = .ok (.iadd, 1) := by decide +kernel
theorem dX6_layPlot_55 : decode cX6_layPlot 55 = .ok (.iload 5, 2) := by decide +kernel
theorem dX6_layPlot_57 : decode cX6_layPlot 57 = .ok (.iastore, 1) := by decide +kernel
theorem dX6_layPlot_58 : decode cX6_layPlot 58 = .ok (.return_, 1) := by decide +kernel
theorem dX6_ofSong_0 : decode cX6_ofSong 0 = .ok (.aload_n 0, 1) := by decide +kernel
theorem dX6_ofSong_1 : decode cX6_ofSong 1 = .ok (.getfield 7, 3) := by decide +kernel
theorem dX6_ofSong_4 : decode cX6_ofSong 4 = .ok (.sipush 826, 3) := by decide +kernel
theorem dX6_ofSong_7 : decode cX6_ofSong 7 = .ok (.iconst 3, 1) := by decide +kernel
theorem dX6_ofSong_8 : decode cX6_ofSong 8 = .ok (.iload_n 1, 1) := by decide +kernel
theorem dX6_ofSong_9 : decode cX6_ofSong 9 = .ok (.imul, 1) := by decide +kernel
theorem dX6_ofSong_10 : decode cX6_ofSong 10 = .ok (.iadd, 1) := by decide +kernel
theorem dX6_ofSong_11 : decode cX6_ofSong 11 = .ok (.iload_n 2, 1) := by decide +kernel
theorem dX6_ofSong_12 : decode cX6_ofSong 12 = .ok (.iadd, 1) := by decide +kernel
theorem dX6_ofSong_13 : decode cX6_ofSong 13 = .ok (.iaload, 1) := by decide +kernel
theorem dX6_ofSong_14 : decode cX6_ofSong 14 = .ok (.ireturn, 1) := by decide +kernel
theorem dX6_records_0 : decode cX6_records 0 = .ok (.aload_n 0, 1) := by decide +kernel
theorem dX6_records_1 : decode cX6_records 1 = .ok (.getfield 43, 3) := by decide +kernel
theorem dX6_records_4 : decode cX6_records 4 = .ok (.iconst 4, 1) := by decide +kernel
theorem dX6_records_5 : decode cX6_records 5 = .ok (.if_icmp .ne 44, 3) := by decide +kernel
theorem dX6_records_8 : decode cX6_records 8 = .ok (.iconst 0, 1) := by decide +kernel
theorem dX6_records_9 : decode cX6_records 9 = .ok (.istore_n 1, 1) := by decide +kernel
theorem dX6_records_10 : decode cX6_records 10 = .ok (.iload_n 1, 1) := by decide +kernel
theorem dX6_records_11 : decode cX6_records 11 = .ok (.sipush 2658, 3) := by decide +kernel
theorem dX6_records_14 : decode cX6_records 14 = .ok (.if_icmp .ge 25, 3) := by decide +kernel
theorem dX6_records_17 : decode cX6_records 17 = .ok (.aload_n 0, 1) := by decide +kernel
theorem dX6_records_18 : decode cX6_records 18 = .ok (.getfield 16, 3) := by decide +kernel
theorem dX6_records_21 : decode cX6_records 21 = .ok (.iload_n 1, 1) := by decide +kernel
theorem dX6_records_22 : decode cX6_records 22 = .ok (.aload_n 0, 1) := by decide +kernel
theorem dX6_records_23 : decode cX6_records 23 = .ok (.getfield 16, 3) := by decide +kernel
theorem dX6_records_26 : decode cX6_records 26 = .ok (.iload_n 1, 1) := by decide +kernel
theorem dX6_records_27 : decode cX6_records 27 = .ok (.sipush 886, 3) := by decide +kernel
theorem dX6_records_30 : decode cX6_records 30 = .ok (.iadd, 1) := by decide +kernel
theorem dX6_records_31 : decode cX6_records 31 = .ok (.iaload, 1) := by decide +kernel
theorem dX6_records_32 : decode cX6_records 32 = .ok (.iastore, 1) := by decide +kernel
theorem dX6_records_33 : decode cX6_records 33 = .ok (.iinc 1 1, 3) := by decide +kernel
theorem dX6_records_36 : decode cX6_records 36 = .ok (.goto (-26), 3) := by decide +kernel
theorem dX6_records_39 : decode cX6_records 39 = .ok (.aload_n 0, 1) := by decide +kernel
theorem dX6_records_40 : decode cX6_records 40 = .ok (.dup, 1) := by decide +kernel
theorem dX6_records_41 : decode cX6_records 41 = .ok (.getfield 43, 3) := by decide +kernel
theorem dX6_records_44 : decode cX6_records 44 = .ok (.iconst 1, 1) := by decide +kernel
theorem dX6_records_45 : decode cX6_records 45 = .ok (.isub, 1) := by decide +kernel
theorem dX6_records_46 : decode cX6_records 46 = .ok (.putfield 43, 3) := by decide +kernel
theorem dX6_records_49 : decode cX6_records 49 = .ok (.iconst 0, 1) := by decide +kernel
theorem dX6_records_50 : decode cX6_records 50 = .ok (.istore_n 1, 1) := by decide +kernel
theorem dX6_records_51 : decode cX6_records 51 = .ok (.iload_n 1, 1) := by decide +kernel
theorem dX6_records_52 : decode cX6_records 52 = .ok (.sipush 886, 3) := by decide +kernel
theorem dX6_records_55 : decode cX6_records 55 = .ok (.if_icmp .ge 30, 3) := by decide +kernel
theorem dX6_records_58 : decode cX6_records 58 = .ok (.aload_n 0, 1) := by decide +kernel
theorem dX6_records_59 : decode cX6_records 59 = .ok (.getfield 16, 3) := by decide +kernel
theorem dX6_records_62 : decode cX6_records 62 = .ok (.sipush 886, 3) := by decide +kernel
theorem dX6_records_65 : decode cX6_records 65 = .ok (.aload_n 0, 1) := by decide +kernel
theorem dX6_records_66 : decode cX6_records 66 = .ok (.getfield 43, 3) := by decide +kernel
theorem dX6_records_69 : decode cX6_records 69 = .ok (.imul, 1) := by decide +kernel
theorem dX6_records_70 : decode cX6_records 70 = .ok (.iload_n 1, 1) := by decide +kernel
theorem dX6_records_71 : decode cX6_records 71 = .ok (.iadd, 1) := by decide +kernel
theorem dX6_records_72 : decode cX6_records 72 = .ok (.aload_n 0, 1) := by decide +kernel
theorem dX6_records_73 : decode cX6_records 73 = .ok (.getfield 7, 3) := by decide +kernel
theorem dX6_records_76 : decode cX6_records 76 = .ok (.iload_n 1, 1) := by decide +kernel
theorem dX6_records_77 : decode cX6_records 77 = .ok (.iaload, 1) := by decide +kernel
theorem dX6_records_78 : decode cX6_records 78 = .ok (.iastore, 1) := by decide +kernel
theorem dX6_records_79 : decode cX6_records 79 = .ok (.iinc 1 1, 3) := by decide +kernel
theorem dX6_records_82 : decode cX6_records 82 = .ok (.goto (-31), 3) := by decide +kernel
theorem dX6_records_85 : decode cX6_records 85 = .ok (.aload_n 0, 1) := by decide +kernel
theorem dX6_records_86 : decode cX6_records 86 = .ok (.dup, 1) := by decide +kernel
theorem dX6_records_87 : decode cX6_records 87 = .ok (.getfield 43, 3) := by decide +kernel
theorem dX6_records_90 : decode cX6_records 90 = .ok (.iconst 1, 1) := by decide +kernel
theorem dX6_records_91 : decode cX6_records 91 = .ok (.iadd, 1) := by decide +kernel
theorem dX6_records_92 : decode cX6_records 92 = .ok (.putfield 43, 3) := by decide +kernel
theorem dX6_records_95 : decode cX6_records 95 = .ok (.return_, 1) := by decide +kernel
theorem dX6_putAside_0 : decode cX6_putAside 0 = .ok (.iconst 0, 1) := by decide +kernel
theorem dX6_putAside_1 : decode cX6_putAside 1 = .ok (.istore_n 1, 1) := by decide +kernel
theorem dX6_putAside_2 : decode cX6_putAside 2 = .ok (.iload_n 1, 1) := by decide +kernel
theorem dX6_putAside_3 : decode cX6_putAside 3 = .ok (.sipush 886, 3) := by decide +kernel
theorem dX6_putAside_6 : decode cX6_putAside 6 = .ok (.if_icmp .ge 21, 3) := by decide +kernel
theorem dX6_putAside_9 : decode cX6_putAside 9 = .ok (.aload_n 0, 1) := by decide +kernel
theorem dX6_putAside_10 : decode cX6_putAside 10 = .ok (.getfield 13, 3) := by decide +kernel
theorem dX6_putAside_13 : decode cX6_putAside 13 = .ok (.iload_n 1, 1) := by decide +kernel
theorem dX6_putAside_14 : decode cX6_putAside 14 = .ok (.aload_n 0, 1) := by decide +kernel
theorem dX6_putAside_15 : decode cX6_putAside 15 = .ok (.getfield 7, 3) := by decide +kernel
theorem dX6_putAside_18 : decode cX6_putAside 18 = .ok (.iload_n 1, 1) := by decide +kernel
theorem dX6_putAside_19 : decode cX6_putAside 19 = .ok (.iaload, 1) := by decide +kernel
theorem dX6_putAside_20 : decode cX6_putAside 20 = .ok (.iastore, 1) := by decide +kernel
theorem dX6_putAside_21 : decode cX6_putAside 21 = .ok (.iinc 1 1, 3) := by decide +kernel
theorem dX6_putAside_24 : decode cX6_putAside 24 = .ok (.goto (-22), 3) := by decide +kernel
theorem dX6_putAside_27 : decode cX6_putAside 27 = .ok (.return_, 1) := by decide +kernel
theorem dX6_takeBack_0 : decode cX6_takeBack 0 = .ok (.iconst 0, 1) := by decide +kernel
theorem dX6_takeBack_1 : decode cX6_takeBack 1 = .ok (.istore_n 1, 1) := by decide +kernel
theorem dX6_takeBack_2 : decode cX6_takeBack 2 = .ok (.iload_n 1, 1) := by decide +kernel
theorem dX6_takeBack_3 : decode cX6_takeBack 3 = .ok (.sipush 886, 3) := by decide +kernel
theorem dX6_takeBack_6 : decode cX6_takeBack 6 = .ok (.if_icmp .ge 21, 3) := by decide +kernel
theorem dX6_takeBack_9 : decode cX6_takeBack 9 = .ok (.aload_n 0, 1) := by decide +kernel
theorem dX6_takeBack_10 : decode cX6_takeBack 10 = .ok (.getfield 7, 3) := by decide +kernel
theorem dX6_takeBack_13 : decode cX6_takeBack 13 = .ok (.iload_n 1, 1) := by decide +kernel
theorem dX6_takeBack_14 : decode cX6_takeBack 14 = .ok (.aload_n 0, 1) := by decide +kernel
theorem dX6_takeBack_15 : decode cX6_takeBack 15 = .ok (.getfield 13, 3) := by decide +kernel
theorem dX6_takeBack_18 : decode cX6_takeBack 18 = .ok (.iload_n 1, 1) := by decide +kernel
theorem dX6_takeBack_19 : decode cX6_takeBack 19 = .ok (.iaload, 1) := by decide +kernel
theorem dX6_takeBack_20 : decode cX6_takeBack 20 = .ok (.iastore, 1) := by decide +kernel
theorem dX6_takeBack_21 : decode cX6_takeBack 21 = .ok (.iinc 1 1, 3) := by decide +kernel
theorem dX6_takeBack_24 : decode cX6_takeBack 24 = .ok (.goto (-22), 3) := by decide +kernel

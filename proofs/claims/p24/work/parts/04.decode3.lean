set_option maxRecDepth 20000 in
theorem gX5_handOver_X5_isPoint : GoodIn wsX5_handOver (va_wsS RX5 40 yX5_isPoint wsX5_isPoint) := goodIn_app (goodIn_of _ (by decide +kernel)) ggX5_handOver_X5_isPoint
set_option maxRecDepth 20000 in
theorem ggX5_handOver_X0_isHere : GoodIn wsX5_handOver wsX0_isHere := goodIn_r _ [11, 12, 13, 14, 15, 16, 17, 18, 19, 164, 165, 166, 167, 168, 169, 170, 171, 172, 173, 174, 175, 176] (by decide +kernel) (by decide +kernel)
set_option maxRecDepth 20000 in
theorem gX5_handOver_X0_isHere : GoodIn wsX5_handOver (wsV RX5 70 RX0 yX0_isHere wsX0_isHere) := goodIn_app (goodIn_of _ (by decide +kernel)) ggX5_handOver_X0_isHere
set_option maxRecDepth 20000 in
theorem ggX5_handOver_X3_find : GoodIn wsX5_handOver wsX3_find := goodIn_r _ [24, 25, 26, 27, 28, 23, 29, 30, 31, 32, 33, 15, 16, 17, 18, 19, 34, 5, 35, 36, 37, 177, 178, 179, 180, 181, 176] (by decide +kernel) (by decide +kernel)
set_option maxRecDepth 20000 in
theorem gX5_handOver_X3_find : GoodIn wsX5_handOver (wsV RX5 85 RX3 yX3_find wsX3_find) := goodIn_app (goodIn_of _ (by decide +kernel)) ggX5_handOver_X3_find
set_option maxRecDepth 20000 in
theorem ggX5_handOver_X3_ownerOf : GoodIn wsX5_handOver wsX3_ownerOf := goodIn_r _ [41, 42, 33, 15, 16, 17, 18, 19, 177, 178, 179, 180, 181, 176] (by decide +kernel) (by decide +kernel)
set_option maxRecDepth 20000 in
theorem gX5_handOver_X3_ownerOf : GoodIn wsX5_handOver (wsV RX5 90 RX3 yX3_ownerOf wsX3_ownerOf) := goodIn_app (goodIn_of _ (by decide +kernel)) ggX5_handOver_X3_ownerOf
set_option maxRecDepth 20000 in
theorem ggX5_handOver_X0_isTentIn : GoodIn wsX5_handOver wsX0_isTentIn := goodIn_r _ [46, 47, 48, 49, 50, 8, 9, 10, 11, 12, 13, 14, 15, 16, 17, 18, 19, 51, 27, 28, 23, 29, 30, 31, 32, 33, 34, 5, 35, 36, 37, 164, 165, 166, 167, 168, 169, 170, 171, 172, 173, 174, 175, 176, 177, 178, 179, 180, 181] (by decide +kernel) (by decide +kernel)
set_option maxRecDepth 20000 in
theorem gX5_handOver_X0_isTentIn : GoodIn wsX5_handOver (wsV RX5 112 RX0 yX0_isTentIn wsX0_isTentIn) := goodIn_app (goodIn_of _ (by decide +kernel)) ggX5_handOver_X0_isTentIn
set_option maxRecDepth 20000 in
theorem ggX5_handOver_X3_ownersBeside : GoodIn wsX5_handOver wsX3_ownersBeside := goodIn_r _ [55, 25, 42, 56, 57, 58, 23, 59, 60, 61, 62, 63, 30, 33, 15, 16, 17, 18, 19, 64, 65, 66, 67, 32, 34, 5, 35, 68, 69, 70, 71, 31, 72, 73, 74, 75, 36, 37, 76, 77, 177, 178, 179, 180, 181, 176] (by decide +kernel) (by decide +kernel)
set_option maxRecDepth 20000 in
theorem gX5_handOver_X3_ownersBeside : GoodIn wsX5_handOver (wsV RX5 115 RX3 yX3_ownersBeside wsX3_ownersBeside) := goodIn_app (goodIn_of _ (by decide +kernel)) ggX5_handOver_X3_ownersBeside
set_option maxRecDepth 20000 in
theorem ggX5_handOver_X5_isMarked : GoodIn wsX5_handOver wsX5_isMarked := goodIn_r _ [80, 81, 76, 5, 77] (by decide +kernel) (by decide +kernel)
set_option maxRecDepth 20000 in
theorem gX5_handOver_X5_isMarked : GoodIn wsX5_handOver (va_wsS RX5 118 yX5_isMarked wsX5_isMarked) := goodIn_app (goodIn_of _ (by decide +kernel)) ggX5_handOver_X5_isMarked
set_option maxRecDepth 20000 in
theorem ggX5_handOver_X2_push : GoodIn wsX5_handOver wsX2_push := goodIn_r _ [86, 87, 88, 89, 90, 91, 92, 93, 94, 95, 85, 96, 97, 98, 99, 100, 10, 101, 12, 102, 103, 104, 105, 47, 48, 49, 13, 106, 107, 108, 109, 110, 111, 23, 112, 25, 30, 31, 32, 42, 113, 114, 115, 17, 116, 19, 117, 182, 183, 184, 164, 165, 166, 167, 168, 169, 170, 171, 172, 173, 174, 175, 177, 178, 179, 180, 181, 176] (by decide +kernel) (by decide +kernel)
set_option maxRecDepth 20000 in
theorem gX5_handOver_X2_push : GoodIn wsX5_handOver (wsV RX5 48 RX2 yX2_push wsX2_push) := goodIn_app (goodIn_of _ (by decide +kernel)) ggX5_handOver_X2_push
set_option maxRecDepth 20000 in
theorem ggX5_handOver_X0_passOn : GoodIn wsX5_handOver wsX0_passOn := goodIn_r _ [121, 47, 104, 122, 123, 124, 23, 125, 42, 126, 127, 128, 17, 129, 19, 130, 131, 132, 133, 32, 30, 31, 33, 15, 16, 18, 134, 5, 135, 136, 34, 35, 137, 138, 139, 36, 37, 140, 21, 22, 24, 25, 26, 27, 28, 29, 141, 39, 40, 41, 142, 143, 144, 145, 146, 147, 148, 149, 150, 151, 152, 153, 154, 155, 156, 157, 164, 165, 166, 167, 168, 169, 170, 171, 172, 173, 174, 175, 177, 178, 179, 180, 181, 176] (by decide +kernel) (by decide +kernel)
set_option maxRecDepth 20000 in
theorem gX5_handOver_X0_passOn : GoodIn wsX5_handOver (wsV RX5 121 RX0 yX0_passOn wsX0_passOn) := goodIn_app (goodIn_of _ (by decide +kernel)) ggX5_handOver_X0_passOn
theorem dX5_handOver_0 : decode cX5_handOver 0 = .ok (.iload_n 1, 1) := by decide +kernel
theorem dX5_handOver_1 : decode cX5_handOver 1 = .ok (.iload_n 2, 1) := by decide +kernel
theorem dX5_handOver_2 : decode cX5_handOver 2 = .ok (.invokestatic 40, 3) := by decide +kernel
theorem dX5_handOver_5 : decode cX5_handOver 5 = .ok (.ifCond .eq 14, 3) := by decide +kernel
theorem dX5_handOver_8 : decode cX5_handOver 8 = .ok (.aload_n 0, 1) := by decide +kernel
theorem dX5_handOver_9 : decode cX5_handOver 9 = .ok (.getfield 12, 3) := by decide +kernel
theorem dX5_handOver_12 : decode cX5_handOver 12 = .ok (.iload_n 3, 1) := by decide +kernel
theorem dX5_handOver_13 : decode cX5_handOver 13 = .ok (.invokevirtual 70, 3) := by decide +kernel
theorem dX5_handOver_16 : decode cX5_handOver 16 = .ok (.ifCond .ne 5, 3) := by decide +kernel
theorem dX5_handOver_19 : decode cX5_handOver 19 = .ok (.iconst (-1), 1) := by decide +kernel
theorem dX5_handOver_20 : decode cX5_handOver 20 = .ok (.ireturn, 1) := by decide +kernel
theorem dX5_handOver_21 : decode cX5_handOver 21 = .ok (.aload_n 0, 1) := by decide +kernel
theorem dX5_handOver_22 : decode cX5_handOver 22 = .ok (.getfield 12, 3) := by decide +kernel
theorem dX5_handOver_25 : decode cX5_handOver 25 = .ok (.getfield 81, 3) := by decide +kernel
theorem dX5_handOver_28 : decode cX5_handOver 28 = .ok (.iload_n 1, 1) := by decide +kernel
theorem dX5_handOver_29 : decode cX5_handOver 29 = .ok (.iload_n 2, 1) := by decide +kernel
theorem dX5_handOver_30 : decode cX5_handOver 30 = .ok (.invokevirtual 85, 3) := by decide +kernel
theorem dX5_handOver_33 : decode cX5_handOver 33 = .ok (.istore 4, 2) := by decide +kernel
theorem dX5_handOver_35 : decode cX5_handOver 35 = .ok (.aload_n 0, 1) := by decide +kernel
theorem dX5_handOver_36 : decode cX5_handOver 36 = .ok (.getfield 12, 3) := by decide +kernel
theorem dX5_handOver_39 : decode cX5_handOver 39 = .ok (.getfield 81, 3) := by decide +kernel
theorem dX5_handOver_42 : decode cX5_handOver 42 = .ok (.iload 4, 2) := by decide +kernel
theorem dX5_handOver_44 : decode cX5_handOver 44 = .ok (.invokevirtual 90, 3) := by decide +kernel
theorem dX5_handOver_47 : decode cX5_handOver 47 = .ok (.istore 5, 2) := by decide +kernel
theorem dX5_handOver_49 : decode cX5_handOver 49 = .ok (.aload_n 0, 1) := by decide +kernel
theorem dX5_handOver_50 : decode cX5_handOver 50 = .ok (.getfield 12, 3) := by decide +kernel
theorem dX5_handOver_53 : decode cX5_handOver 53 = .ok (.iload 4, 2) := by decide +kernel
theorem dX5_handOver_55 : decode cX5_handOver 55 = .ok (.iload 5, 2) := by decide +kernel
theorem dX5_handOver_57 : decode cX5_handOver 57 = .ok (.invokevirtual 112, 3) := by decide +kernel
theorem dX5_handOver_60 : decode cX5_handOver 60 = .ok (.ifCond .ne 22, 3) := by decide +kernel
theorem dX5_handOver_63 : decode cX5_handOver 63 = .ok (.aload_n 0, 1) := by decide +kernel
theorem dX5_handOver_64 : decode cX5_handOver 64 = .ok (.getfield 12, 3) := by decide +kernel
theorem dX5_handOver_67 : decode cX5_handOver 67 = .ok (.getfield 81, 3) := by decide +kernel
theorem dX5_handOver_70 : decode cX5_handOver 70 = .ok (.iload 4, 2) := by decide +kernel
theorem dX5_handOver_72 : decode cX5_handOver 72 = .ok (.invokevirtual 115, 3) := by decide +kernel
theorem dX5_handOver_75 : decode cX5_handOver 75 = .ok (.iload_n 3, 1) := by decide +kernel
theorem dX5_handOver_76 : decode cX5_handOver 76 = .ok (.invokestatic 118, 3) := by decide +kernel
theorem dX5_handOver_79 : decode cX5_handOver 79 = .ok (.ifCond .ne 6, 3) := by decide +kernel
theorem dX5_handOver_82 : decode cX5_handOver 82 = .ok (.bipush (-4), 2) := by decide +kernel
theorem dX5_handOver_84 : decode cX5_handOver 84 = .ok (.ireturn, 1) := by decide +kernel
theorem dX5_handOver_85 : decode cX5_handOver 85 = .ok (.iload 5, 2) := by decide +kernel
theorem dX5_handOver_87 : decode cX5_handOver 87 = .ok (.iload_n 3, 1) := by decide +kernel
theorem dX5_handOver_88 : decode cX5_handOver 88 = .ok (.if_icmp .ne 6, 3) := by decide +kernel
theorem dX5_handOver_91 : decode cX5_handOver 91 = .ok (.bipush (-5), 2) := by decide +kernel
theorem dX5_handOver_93 : decode cX5_handOver 93 = .ok (.ireturn, 1) := by decide +kernel
theorem dX5_handOver_94 : decode cX5_handOver 94 = .ok (.aload_n 0, 1) := by decide +kernel
theorem dX5_handOver_95 : decode cX5_handOver 95 = .ok (.getfield 25, 3) := by decide +kernel
theorem dX5_handOver_98 : decode cX5_handOver 98 = .ok (.aload_n 0, 1) := by decide +kernel
theorem dX5_handOver_99 : decode cX5_handOver 99 = .ok (.getfield 12, 3) := by decide +kernel
theorem dX5_handOver_102 : decode cX5_handOver 102 = .ok (.invokevirtual 48, 3) := by decide +kernel
theorem dX5_handOver_105 : decode cX5_handOver 105 = .ok (.aload_n 0, 1) := by decide +kernel
theorem dX5_handOver_106 : decode cX5_handOver 106 = .ok (.getfield 12, 3) := by decide +kernel
theorem dX5_handOver_109 : decode cX5_handOver 109 = .ok (.iload 4, 2) := by decide +kernel
theorem dX5_handOver_111 : decode cX5_handOver 111 = .ok (.iload_n 3, 1) := by decide +kernel
theorem dX5_handOver_112 : decode cX5_handOver 112 = .ok (.invokevirtual 121, 3) := by decide +kernel
theorem dX5_handOver_115 : decode cX5_handOver 115 = .ok (.iload 5, 2) := by decide +kernel
theorem dX5_handOver_117 : decode cX5_handOver 117 = .ok (.ireturn, 1) := by decide +kernel
set_option maxRecDepth 20000 in
theorem ggX5_lay_X5_isPoint : GoodIn wsX5_lay wsX5_isPoint := goodIn_r _ [6] (by decide +kernel) (by decide +kernel)
set_option maxRecDepth 20000 in
theorem gX5_lay_X5_isPoint : GoodIn wsX5_lay (va_wsS RX5 40 yX5_isPoint wsX5_isPoint) := goodIn_app (goodIn_of _ (by decide +kernel)) ggX5_lay_X5_isPoint
set_option maxRecDepth 20000 in
theorem ggX5_lay_X2_push : GoodIn wsX5_lay wsX2_push := goodIn_r _ [11, 12, 13, 14, 15, 16, 17, 18, 19, 20, 10, 21, 22, 23, 24, 25, 26, 27, 28, 29, 30, 31, 32, 33, 34, 35, 36, 37, 38, 39, 40, 41, 42, 43, 44, 45, 46, 47, 48, 49, 50, 51, 52, 53, 54, 55, 56, 87, 88, 89, 75, 76, 77, 78, 79, 80, 81, 82, 83, 84, 85, 86, 90, 91, 92, 93, 94, 95] (by decide +kernel) (by decide +kernel)
set_option maxRecDepth 20000 in
theorem gX5_lay_X2_push : GoodIn wsX5_lay (wsV RX5 48 RX2 yX2_push wsX2_push) := goodIn_app (goodIn_of _ (by decide +kernel)) ggX5_lay_X2_push
set_option maxRecDepth 20000 in
theorem ggX5_lay_X0_addSong : GoodIn wsX5_lay wsX0_addSong := goodIn_r _ [60, 29, 39, 61, 62, 63, 53, 64, 55, 65, 66, 67, 26, 68, 37, 38, 75, 76, 77, 78, 79, 80, 81, 82, 83, 84, 85, 86, 95] (by decide +kernel) (by decide +kernel)
set_option maxRecDepth 20000 in
theorem gX5_lay_X0_addSong : GoodIn wsX5_lay (wsV RX5 129 RX0 yX0_addSong wsX0_addSong) := goodIn_app (goodIn_of _ (by decide +kernel)) ggX5_lay_X0_addSong
theorem dX5_lay_0 : decode cX5_lay 0 = .ok (.iload_n 1, 1) := by decide +kernel
theorem dX5_lay_1 : decode cX5_lay 1 = .ok (.iload_n 2, 1) := by decide +kernel
theorem dX5_lay_2 : decode cX5_lay 2 = .ok (.invokestatic 40, 3) := by decide +kernel
theorem dX5_lay_5 : decode cX5_lay 5 = .ok (.ifCond .ne 5, 3) := by decide +kernel
theorem dX5_lay_8 : decode cX5_lay 8 = .ok (.iconst (-1), 1) := by decide +kernel
theorem dX5_lay_9 : decode cX5_lay 9 = .ok (.ireturn, 1) := by decide +kernel
theorem dX5_lay_10 : decode cX5_lay 10 = .ok (.iload_n 3, 1) := by decide +kernel
theorem dX5_lay_11 : decode cX5_lay 11 = .ok (.iconst 1, 1) := by decide +kernel
theorem dX5_lay_12 : decode cX5_lay 12 = .ok (.if_icmp .lt 10, 3) := by decide +kernel
theorem dX5_lay_15 : decode cX5_lay 15 = .ok (.iload_n 3, 1) := by decide +kernel
theorem dX5_lay_16 : decode cX5_lay 16 = .ok (.sipush 999, 3) := by decide +kernel
theorem dX5_lay_19 : decode cX5_lay 19 = .ok (.if_icmp .le 6, 3) := by decide +kernel
theorem dX5_lay_22 : decode cX5_lay 22 = .ok (.bipush (-2), 2) := by decide +kernel
theorem dX5_lay_24 : decode cX5_lay 24 = .ok (.ireturn, 1) := by decide +kernel
theorem dX5_lay_25 : decode cX5_lay 25 = .ok (.aload_n 0, 1) := by decide +kernel
theorem dX5_lay_26 : decode cX5_lay 26 = .ok (.getfield 12, 3) := by decide +kernel
theorem dX5_lay_29 : decode cX5_lay 29 = .ok (.getfield 125, 3) := by decide +kernel
theorem dX5_lay_32 : decode cX5_lay 32 = .ok (.bipush 20, 2) := by decide +kernel
theorem dX5_lay_34 : decode cX5_lay 34 = .ok (.if_icmp .lt 6, 3) := by decide +kernel
theorem dX5_lay_37 : decode cX5_lay 37 = .ok (.bipush (-3), 2) := by decide +kernel
theorem dX5_lay_39 : decode cX5_lay 39 = .ok (.ireturn, 1) := by decide +kernel
theorem dX5_lay_40 : decode cX5_lay 40 = .ok (.aload_n 0, 1) := by decide +kernel
theorem dX5_lay_41 : decode cX5_lay 41 = .ok (.getfield 25, 3) := by decide +kernel
theorem dX5_lay_44 : decode cX5_lay 44 = .ok (.aload_n 0, 1) := by decide +kernel
theorem dX5_lay_45 : decode cX5_lay 45 = .ok (.getfield 12, 3) := by decide +kernel
theorem dX5_lay_48 : decode cX5_lay 48 = .ok (.invokevirtual 48, 3) := by decide +kernel
theorem dX5_lay_51 : decode cX5_lay 51 = .ok (.aload_n 0, 1) := by decide +kernel
theorem dX5_lay_52 : decode cX5_lay 52 = .ok (.getfield 12, 3) := by decide +kernel
theorem dX5_lay_55 : decode cX5_lay 55 = .ok (.iload_n 1, 1) := by decide +kernel
theorem dX5_lay_56 : decode cX5_lay 56 = .ok (.iload_n 2, 1) := by decide +kernel
theorem dX5_lay_57 : decode cX5_lay 57 = .ok (.iload_n 3, 1) := by decide +kernel
theorem dX5_lay_58 : decode cX5_lay 58 = .ok (.invokevirtual 129, 3) := by decide +kernel
theorem dX5_lay_61 : decode cX5_lay 61 = .ok (.ireturn, 1) := by decide +kernel
set_option maxRecDepth 20000 in
theorem ggX5_carry_X0_isSong : GoodIn wsX5_carry wsX0_isSong := goodIn_r _ [7, 8, 105, 106, 107, 108, 109, 110, 111, 112, 113, 114, 115, 116] (by decide +kernel) (by decide +kernel)
set_option maxRecDepth 20000 in
theorem gX5_carry_X0_isSong : GoodIn wsX5_carry (wsV RX5 132 RX0 yX0_isSong wsX0_isSong) := goodIn_app (goodIn_of _ (by decide +kernel)) ggX5_carry_X0_isSong
set_option maxRecDepth 20000 in
theorem ggX5_carry_X5_isPoint : GoodIn wsX5_carry wsX5_isPoint := goodIn_r _ [12] (by decide +kernel) (by decide +kernel)
set_option maxRecDepth 20000 in
theorem gX5_carry_X5_isPoint : GoodIn wsX5_carry (va_wsS RX5 40 yX5_isPoint wsX5_isPoint) := goodIn_app (goodIn_of _ (by decide +kernel)) ggX5_carry_X5_isPoint
set_option maxRecDepth 20000 in
theorem ggX5_carry_X4_at : GoodIn wsX5_carry wsX4_at := goodIn_r _ [17, 18, 117] (by decide +kernel) (by decide +kernel)
set_option maxRecDepth 20000 in
theorem gX5_carry_X4_at : GoodIn wsX5_carry (wsV RX5 97 RX4 yX4_at wsX4_at) := goodIn_app (goodIn_of _ (by decide +kernel)) ggX5_carry_X4_at
set_option maxRecDepth 20000 in
theorem ggX5_carry_X2_push : GoodIn wsX5_carry wsX2_push := goodIn_r _ [23, 24, 25, 26, 27, 28, 29, 30, 31, 32, 22, 33, 34, 35, 36, 37, 6, 38, 39, 8, 40, 41, 42, 43, 44, 45, 46, 47, 48, 49, 50, 51, 52, 53, 54, 55, 56, 57, 58, 59, 60, 61, 62, 16, 63, 18, 64, 118, 119, 120, 105, 106, 107, 108, 109, 110, 111, 112, 113, 114, 115, 116, 121, 122, 123, 124, 125, 117] (by decide +kernel) (by decide +kernel)
set_option maxRecDepth 20000 in
theorem gX5_carry_X2_push : GoodIn wsX5_carry (wsV RX5 48 RX2 yX2_push wsX2_push) := goodIn_app (goodIn_of _ (by decide +kernel)) ggX5_carry_X2_push
set_option maxRecDepth 20000 in
theorem ggX5_carry_X0_putSong : GoodIn wsX5_carry wsX0_putSong := goodIn_r _ [68, 47, 48, 69, 70, 71, 16, 72, 18, 105, 106, 107, 108, 109, 110, 111, 112, 113, 114, 115, 116, 117] (by decide +kernel) (by decide +kernel)
set_option maxRecDepth 20000 in
theorem gX5_carry_X0_putSong : GoodIn wsX5_carry (wsV RX5 141 RX0 yX0_putSong wsX0_putSong) := goodIn_app (goodIn_of _ (by decide +kernel)) ggX5_carry_X0_putSong
set_option maxRecDepth 20000 in
theorem ggX5_carry_X5_toldOwnerOf : GoodIn wsX5_carry wsX5_toldOwnerOf := goodIn_r _ [76, 1, 77, 78, 79, 6, 80, 43, 47, 48, 81, 14, 15, 16, 17, 18, 82, 83, 84, 53, 85, 59, 86, 87, 88, 89, 55, 90, 91, 92, 93, 56, 57, 58, 94, 95, 11, 96, 97, 98, 99, 100, 101, 102, 103, 104, 105, 106, 107, 108, 109, 110, 111, 112, 113, 114, 115, 116, 117, 121, 122, 123, 124, 125] (by decide +kernel) (by decide +kernel)
set_option maxRecDepth 20000 in
theorem gX5_carry_X5_toldOwnerOf : GoodIn wsX5_carry (wsV RX5 144 RX5 yX5_toldOwnerOf wsX5_toldOwnerOf) := goodIn_app (goodIn_of _ (by decide +kernel)) ggX5_carry_X5_toldOwnerOf
theorem dX5_carry_0 : decode cX5_carry 0 = .ok (.aload_n 0, 1) := by decide +kernel
theorem dX5_carry_1 : decode cX5_carry 1 = .ok (.getfield 12, 3) := by decide +kernel
theorem dX5_carry_4 : decode cX5_carry 4 = .ok (.iload_n 1, 1) := by decide +kernel
theorem dX5_carry_5 : decode cX5_carry 5 = .ok (.invokevirtual 132, 3) := by decide +kernel
theorem dX5_carry_8 : decode cX5_carry 8 = .ok (.ifCond .eq 11, 3) := by decide +kernel
theorem dX5_carry_11 : decode cX5_carry 11 = .ok (.iload_n 2, 1) := by decide +kernel
theorem dX5_carry_12 : decode cX5_carry 12 = .ok (.iload_n 3, 1) := by decide +kernel
theorem dX5_carry_13 : decode cX5_carry 13 = .ok (.invokestatic 40, 3) := by decide +kernel
theorem dX5_carry_16 : decode cX5_carry 16 = .ok (.ifCond .ne 5, 3) := by decide +kernel
theorem dX5_carry_19 : decode cX5_carry 19 = .ok (.iconst (-1), 1) := by decide +kernel
theorem dX5_carry_20 : decode cX5_carry 20 = .ok (.ireturn, 1) := by decide +kernel
theorem dX5_carry_21 : decode cX5_carry 21 = .ok (.aload_n 0, 1) := by decide +kernel
theorem dX5_carry_22 : decode cX5_carry 22 = .ok (.getfield 12, 3) := by decide +kernel
theorem dX5_carry_25 : decode cX5_carry 25 = .ok (.getfield 135, 3) := by decide +kernel
theorem dX5_carry_28 : decode cX5_carry 28 = .ok (.iload_n 1, 1) := by decide +kernel
theorem dX5_carry_29 : decode cX5_carry 29 = .ok (.invokevirtual 97, 3) := by decide +kernel
theorem dX5_carry_32 : decode cX5_carry 32 = .ok (.iload_n 2, 1) := by decide +kernel
theorem dX5_carry_33 : decode cX5_carry 33 = .ok (.if_icmp .ne 21, 3) := by decide +kernel
theorem dX5_carry_36 : decode cX5_carry 36 = .ok (.aload_n 0, 1) := by decide +kernel
theorem dX5_carry_37 : decode cX5_carry 37 = .ok (.getfield 12, 3) := by decide +kernel
theorem dX5_carry_40 : decode cX5_carry 40 = .ok (.getfield 138, 3) := by decide +kernel
theorem dX5_carry_43 : decode cX5_carry 43 = .ok (.iload_n 1, 1) := by decide +kernel
theorem dX5_carry_44 : decode cX5_carry 44 = .ok (.invokevirtual 97, 3) := by decide +kernel
theorem dX5_carry_47 : decode cX5_carry 47 = .ok (.iload_n 3, 1) := by decide +kernel
theorem dX5_carry_48 : decode cX5_carry 48 = .ok (.if_icmp .ne 6, 3) := by decide +kernel
theorem dX5_carry_51 : decode cX5_carry 51 = .ok (.bipush (-5), 2) := by decide +kernel
theorem dX5_carry_53 : decode cX5_carry 53 = .ok (.ireturn, 1) := by decide +kernel
theorem dX5_carry_54 : decode cX5_carry 54 = .ok (.aload_n 0, 1) := by decide +kernel
theorem dX5_carry_55 : decode cX5_carry 55 = .ok (.getfield 25, 3) := by decide +kernel
theorem dX5_carry_58 : decode cX5_carry 58 = .ok (.aload_n 0, 1) := by decide +kernel
theorem dX5_carry_59 : decode cX5_carry 59 = .ok (.getfield 12, 3) := by decide +kernel
theorem dX5_carry_62 : decode cX5_carry 62 = .ok (.invokevirtual 48, 3) := by decide +kernel
theorem dX5_carry_65 : decode cX5_carry 65 = .ok (.aload_n 0, 1) := by decide +kernel
theorem dX5_carry_66 : decode cX5_carry 66 = .ok (.getfield 12, 3) := by decide +kernel
theorem dX5_carry_69 : decode cX5_carry 69 = .ok (.iload_n 1, 1) := by decide +kernel
theorem dX5_carry_70 : decode cX5_carry 70 = .ok (.iload_n 2, 1) := by decide +kernel
theorem dX5_carry_71 : decode cX5_carry 71 = .ok (.iload_n 3, 1) := by decide +kernel
theorem dX5_carry_72 : decode cX5_carry 72 = .ok (.invokevirtual 141, 3) := by decide +kernel
theorem dX5_carry_75 : decode cX5_carry 75 = .ok (.aload_n 0, 1) := by decide +kernel
theorem dX5_carry_76 : decode cX5_carry 76 = .ok (.iload_n 1, 1) := by decide +kernel
theorem dX5_carry_77 : decode cX5_carry 77 = .ok (.invokevirtual 144, 3) := by decide +kernel
theorem dX5_carry_80 : decode cX5_carry 80 = .ok (.ireturn, 1) := by decide +kernel
set_option maxRecDepth 20000 in
theorem ggX5_type_X1_append : GoodIn wsX5_type wsX1_append := goodIn_r _ [6, 7, 8, 15, 16] (by decide +kernel) (by decide +kernel)
set_option maxRecDepth 20000 in
theorem gX5_type_X1_append : GoodIn wsX5_type (wsV RX5 147 RX1 yX1_append wsX1_append) := goodIn_app (goodIn_of _ (by decide +kernel)) ggX5_type_X1_append
theorem dX5_type_0 : decode cX5_type 0 = .ok (.aload_n 0, 1) := by decide +kernel
theorem dX5_type_1 : decode cX5_type 1 = .ok (.getfield 32, 3) := by decide +kernel
theorem dX5_type_4 : decode cX5_type 4 = .ok (.iload_n 1, 1) := by decide +kernel
theorem dX5_type_5 : decode cX5_type 5 = .ok (.invokevirtual 147, 3) := by decide +kernel
theorem dX5_type_8 : decode cX5_type 8 = .ok (.ifCond .eq 13, 3) := by decide +kernel
theorem dX5_type_11 : decode cX5_type 11 = .ok (.aload_n 0, 1) := by decide +kernel
theorem dX5_type_12 : decode cX5_type 12 = .ok (.getfield 32, 3) := by decide +kernel
theorem dX5_type_15 : decode cX5_type 15 = .ok (.getfield 151, 3) := by decide +kernel
theorem dX5_type_18 : decode cX5_type 18 = .ok (.goto 5, 3) := by decide +kernel
theorem dX5_type_21 : decode cX5_type 21 = .ok (.bipush (-3), 2) := by decide +kernel
theorem dX5_type_23 : decode cX5_type 23 = .ok (.ireturn, 1) := by decide +kernel
theorem dX5_clearText_0 : decode cX5_clearText 0 = .ok (.aload_n 0, 1) := by decide +kernel
theorem dX5_clearText_1 : decode cX5_clearText 1 = .ok (.getfield 32, 3) := by decide +kernel
theorem dX5_clearText_4 : decode cX5_clearText 4 = .ok (.getfield 151, 3) := by decide +kernel
theorem dX5_clearText_7 : decode cX5_clearText 7 = .ok (.istore_n 1, 1) := by decide +kernel
theorem dX5_clearText_8 : decode cX5_clearText 8 = .ok (.aload_n 0, 1) := by decide +kernel
theorem dX5_clearText_9 : decode cX5_clearText 9 = .ok (.getfield 32, 3) := by decide +kernel
theorem dX5_clearText_12 : decode cX5_clearText 12 = .ok (.iconst 0, 1) := by decide +kernel
theorem dX5_clearText_13 : decode cX5_clearText 13 = .ok (.putfield 151, 3) := by decide +kernel
theorem dX5_clearText_16 : decode cX5_clearText 16 = .ok (.iload_n 1, 1) := by decide +kernel
theorem dX5_clearText_17 : decode cX5_clearText 17 = .ok (.ireturn, 1) := by decide +kernel
set_option maxRecDepth 20000 in
theorem ggX5_undo_X2_pop : GoodIn wsX5_undo wsX2_pop := goodIn_r _ [7, 8, 9, 10, 11, 12, 6, 13, 14, 15, 16, 17, 18, 19, 20, 21, 22, 23, 24, 25, 26, 27, 28, 29, 30, 31, 32, 33, 34, 35, 36, 37, 38, 39, 40, 41, 42, 43, 44, 45, 46, 47, 48, 55, 56, 57, 58, 59, 60, 61, 62, 63, 64, 65, 66, 67, 68, 69, 70, 71, 72, 73, 74, 75] (by decide +kernel) (by decide +kernel)
set_option maxRecDepth 20000 in
theorem gX5_undo_X2_pop : GoodIn wsX5_undo (wsV RX5 157 RX2 yX2_pop wsX2_pop) := goodIn_app (goodIn_of _ (by decide +kernel)) ggX5_undo_X2_pop
theorem dX5_undo_0 : decode cX5_undo 0 = .ok (.aload_n 0, 1) := by decide +kernel
theorem dX5_undo_1 : decode cX5_undo 1 = .ok (.getfield 25, 3) := by decide +kernel
theorem dX5_undo_4 : decode cX5_undo 4 = .ok (.getfield 154, 3) := by decide +kernel
theorem dX5_undo_7 : decode cX5_undo 7 = .ok (.ifCond .ne 6, 3) := by decide +kernel
theorem dX5_undo_10 : decode cX5_undo 10 = .ok (.bipush (-5), 2) := by decide +kernel
theorem dX5_undo_12 : decode cX5_undo 12 = .ok (.ireturn, 1) := by decide +kernel
theorem dX5_undo_13 : decode cX5_undo 13 = .ok (.aload_n 0, 1) := by decide +kernel
theorem dX5_undo_14 : decode cX5_undo 14 = .ok (.getfield 25, 3) := by decide +kernel
theorem dX5_undo_17 : decode cX5_undo 17 = .ok (.aload_n 0, 1) := by decide +kernel
theorem dX5_undo_18 : decode cX5_undo 18 = .ok (.getfield 12, 3) := by decide +kernel
theorem dX5_undo_21 : decode cX5_undo 21 = .ok (.invokevirtual 157, 3) := by decide +kernel
theorem dX5_undo_24 : decode cX5_undo 24 = .ok (.aload_n 0, 1) := by decide +kernel
theorem dX5_undo_25 : decode cX5_undo 25 = .ok (.getfield 25, 3) := by decide +kernel
theorem dX5_undo_28 : decode cX5_undo 28 = .ok (.getfield 154, 3) := by decide +kernel
theorem dX5_undo_31 : decode cX5_undo 31 = .ok (.ireturn, 1) := by decide +kernel
set_option maxRecDepth 20000 in
theorem ggX5_keep_X0_copyFrom : GoodIn wsX5_keep wsX0_copyFrom := goodIn_r _ [8, 9, 10, 11, 12, 13, 14, 15, 16, 17, 18, 19, 20, 21, 22, 23, 24, 25, 26, 27, 28, 29, 30, 31, 32, 33, 34, 35, 36, 37, 52, 53, 54, 55, 56, 57, 58, 59, 60, 61, 62, 63, 64, 65, 66, 67, 68, 69] (by decide +kernel) (by decide +kernel)
set_option maxRecDepth 20000 in
theorem gX5_keep_X0_copyFrom : GoodIn wsX5_keep (wsV RX5 60 RX0 yX0_copyFrom wsX0_copyFrom) := goodIn_app (goodIn_of _ (by decide +kernel)) ggX5_keep_X0_copyFrom
set_option maxRecDepth 20000 in
theorem ggX5_keep_X0_campersHere : GoodIn wsX5_keep wsX0_campersHere := goodIn_r _ [41, 9, 17, 42, 43, 44, 34, 45, 36, 52, 53, 54, 55, 56, 57, 58, 59, 60, 61, 62, 63, 69] (by decide +kernel) (by decide +kernel)
set_option maxRecDepth 20000 in
theorem gX5_keep_X0_campersHere : GoodIn wsX5_keep (wsV RX5 78 RX0 yX0_campersHere wsX0_campersHere) := goodIn_app (goodIn_of _ (by decide +kernel)) ggX5_keep_X0_campersHere
theorem dX5_keep_0 : decode cX5_keep 0 = .ok (.aload_n 0, 1) := by decide +kernel
theorem dX5_keep_1 : decode cX5_keep 1 = .ok (.getfield 19, 3) := by decide +kernel
theorem dX5_keep_4 : decode cX5_keep 4 = .ok (.aload_n 0, 1) := by decide +kernel
theorem dX5_keep_5 : decode cX5_keep 5 = .ok (.getfield 12, 3) := by decide +kernel
theorem dX5_keep_8 : decode cX5_keep 8 = .ok (.invokevirtual 60, 3) := by decide +kernel
theorem dX5_keep_11 : decode cX5_keep 11 = .ok (.aload_n 0, 1) := by decide +kernel
theorem dX5_keep_12 : decode cX5_keep 12 = .ok (.iconst 1, 1) := by decide +kernel
theorem dX5_keep_13 : decode cX5_keep 13 = .ok (.putfield 36, 3) := by decide +kernel
theorem dX5_keep_16 : decode cX5_keep 16 = .ok (.aload_n 0, 1) := by decide +kernel
theorem dX5_keep_17 : decode cX5_keep 17 = .ok (.getfield 12, 3) := by decide +kernel
theorem dX5_keep_20 : decode cX5_keep 20 = .ok (.invokevirtual 78, 3) := by decide +kernel
theorem dX5_keep_23 : decode cX5_keep 23 = .ok (.ireturn, 1) := by decide +kernel
set_option maxRecDepth 20000 in
theorem ggX5_restore_X2_push : GoodIn wsX5_restore wsX2_push := goodIn_r _ [9, 10, 11, 12, 13, 14, 15, 16, 17, 18, 8, 19, 20, 21, 22, 23, 24, 25, 26, 27, 28, 29, 30, 31, 32, 33, 34, 35, 36, 37, 38, 39, 40, 41, 42, 43, 44, 45, 46, 47, 48, 49, 50, 51, 52, 53, 54, 70, 71, 72, 73, 74, 75, 76, 77, 78, 79, 80, 81, 82, 83, 84, 85, 86, 87, 88, 89, 90] (by decide +kernel) (by decide +kernel)
set_option maxRecDepth 20000 in
theorem gX5_restore_X2_push : GoodIn wsX5_restore (wsV RX5 48 RX2 yX2_push wsX2_push) := goodIn_app (goodIn_of _ (by decide +kernel)) ggX5_restore_X2_push
set_option maxRecDepth 20000 in
theorem ggX5_restore_X0_copyFrom : GoodIn wsX5_restore wsX0_copyFrom := goodIn_r _ [25, 26, 27, 28, 29, 30, 31, 32, 33, 34, 35, 36, 37, 38, 39, 40, 41, 42, 43, 44, 45, 46, 47, 48, 49, 50, 51, 52, 53, 54, 73, 74, 75, 76, 77, 78, 79, 80, 81, 82, 83, 84, 85, 86, 87, 88, 89, 90] (by decide +kernel) (by decide +kernel)
set_option maxRecDepth 20000 in
theorem gX5_restore_X0_copyFrom : GoodIn wsX5_restore (wsV RX5 60 RX0 yX0_copyFrom wsX0_copyFrom) := goodIn_app (goodIn_of _ (by decide +kernel)) ggX5_restore_X0_copyFrom
set_option maxRecDepth 20000 in
theorem ggX5_restore_X0_campersHere : GoodIn wsX5_restore wsX0_campersHere := goodIn_r _ [59, 26, 34, 60, 61, 62, 51, 63, 53, 73, 74, 75, 76, 77, 78, 79, 80, 81, 82, 83, 84, 90] (by decide +kernel) (by decide +kernel)
set_option maxRecDepth 20000 in
theorem gX5_restore_X0_campersHere : GoodIn wsX5_restore (wsV RX5 78 RX0 yX0_campersHere wsX0_campersHere) := goodIn_app (goodIn_of _ (by decide +kernel)) ggX5_restore_X0_campersHere
theorem dX5_restore_0 : decode cX5_restore 0 = .ok (.aload_n 0, 1) := by decide +kernel
theorem dX5_restore_1 : decode cX5_restore 1 = .ok (.getfield 36, 3) := by decide +kernel
theorem dX5_restore_4 : decode cX5_restore 4 = .ok (.ifCond .ne 6, 3) := by decide +kernel
theorem dX5_restore_7 : decode cX5_restore 7 = .ok (.bipush (-5), 2) := by decide +kernel
theorem dX5_restore_9 : decode cX5_restore 9 = .ok (.ireturn, 1) := by decide +kernel
theorem dX5_restore_10 : decode cX5_restore 10 = .ok (.aload_n 0, 1) := by decide +kernel
theorem dX5_restore_11 : decode cX5_restore 11 = .ok (.getfield 25, 3) := by decide +kernel
theorem dX5_restore_14 : decode cX5_restore 14 = .ok (.aload_n 0, 1) := by decide +kernel
theorem dX5_restore_15 : decode cX5_restore 15 = .ok (.getfield 12, 3) := by decide +kernel
theorem dX5_restore_18 : decode cX5_restore 18 = .ok (.invokevirtual 48, 3) := by decide +kernel
theorem dX5_restore_21 : decode cX5_restore 21 = .ok (.aload_n 0, 1) := by decide +kernel
theorem dX5_restore_22 : decode cX5_restore 22 = .ok (.getfield 12, 3) := by decide +kernel
theorem dX5_restore_25 : decode cX5_restore 25 = .ok (.aload_n 0, 1) := by decide +kernel
theorem dX5_restore_26 : decode cX5_restore 26 = .ok (.getfield 19, 3) := by decide +kernel
theorem dX5_restore_29 : decode cX5_restore 29 = .ok (.invokevirtual 60, 3) := by decide +kernel
theorem dX5_restore_32 : decode cX5_restore 32 = .ok (.aload_n 0, 1) := by decide +kernel
theorem dX5_restore_33 : decode cX5_restore 33 = .ok (.getfield 12, 3) := by decide +kernel
theorem dX5_restore_36 : decode cX5_restore 36 = .ok (.invokevirtual 78, 3) := by decide +kernel
theorem dX5_restore_39 : decode cX5_restore 39 = .ok (.ireturn, 1) := by decide +kernel
set_option maxRecDepth 20000 in
theorem ggX5_plot_X5_isPoint : GoodIn wsX5_plot wsX5_isPoint := goodIn_r _ [5] (by decide +kernel) (by decide +kernel)
set_option maxRecDepth 20000 in
theorem gX5_plot_X5_isPoint : GoodIn wsX5_plot (va_wsS RX5 40 yX5_isPoint wsX5_isPoint) := goodIn_app (goodIn_of _ (by decide +kernel)) ggX5_plot_X5_isPoint
set_option maxRecDepth 20000 in
theorem ggX5_plot_X3_find : GoodIn wsX5_plot wsX3_find := goodIn_r _ [10, 11, 12, 13, 14, 9, 15, 16, 17, 18, 19, 20, 21, 22, 23, 24, 25, 4, 26, 27, 28, 87, 88, 89, 90, 91, 92] (by decide +kernel) (by decide +kernel)
set_option maxRecDepth 20000 in
theorem gX5_plot_X3_find : GoodIn wsX5_plot (wsV RX5 85 RX3 yX3_find wsX3_find) := goodIn_app (goodIn_of _ (by decide +kernel)) ggX5_plot_X3_find
set_option maxRecDepth 20000 in
theorem ggX5_plot_X3_ownerOf : GoodIn wsX5_plot wsX3_ownerOf := goodIn_r _ [32, 33, 19, 20, 21, 22, 23, 24, 87, 88, 89, 90, 91, 92] (by decide +kernel) (by decide +kernel)
set_option maxRecDepth 20000 in
theorem gX5_plot_X3_ownerOf : GoodIn wsX5_plot (wsV RX5 90 RX3 yX3_ownerOf wsX3_ownerOf) := goodIn_app (goodIn_of _ (by decide +kernel)) ggX5_plot_X3_ownerOf
set_option maxRecDepth 20000 in
theorem ggX5_plot_X5_orNone : GoodIn wsX5_plot wsX5_orNone := goodIn_r _ [36] (by decide +kernel) (by decide +kernel)
set_option maxRecDepth 20000 in
theorem gX5_plot_X5_orNone : GoodIn wsX5_plot (va_wsS RX5 160 yX5_orNone wsX5_orNone) := goodIn_app (goodIn_of _ (by decide +kernel)) ggX5_plot_X5_orNone
set_option maxRecDepth 20000 in
theorem ggX5_plot_X3_depthOf : GoodIn wsX5_plot wsX3_depthOf := goodIn_r _ [40, 18, 19, 20, 21, 22, 23, 24, 87, 88, 89, 90, 91, 92] (by decide +kernel) (by decide +kernel)
set_option maxRecDepth 20000 in
theorem gX5_plot_X3_depthOf : GoodIn wsX5_plot (wsV RX5 109 RX3 yX3_depthOf wsX3_depthOf) := goodIn_app (goodIn_of _ (by decide +kernel)) ggX5_plot_X3_depthOf
set_option maxRecDepth 20000 in
theorem ggX5_plot_X3_x0Of : GoodIn wsX5_plot wsX3_x0Of := goodIn_r _ [44, 16, 19, 20, 21, 22, 23, 24, 87, 88, 89, 90, 91, 92] (by decide +kernel) (by decide +kernel)
set_option maxRecDepth 20000 in
theorem gX5_plot_X3_x0Of : GoodIn wsX5_plot (wsV RX5 163 RX3 yX3_x0Of wsX3_x0Of) := goodIn_app (goodIn_of _ (by decide +kernel)) ggX5_plot_X3_x0Of
set_option maxRecDepth 20000 in
theorem ggX5_plot_X3_y0Of : GoodIn wsX5_plot wsX3_y0Of := goodIn_r _ [48, 17, 19, 20, 21, 22, 23, 24, 87, 88, 89, 90, 91, 92] (by decide +kernel) (by decide +kernel)
set_option maxRecDepth 20000 in
theorem gX5_plot_X3_y0Of : GoodIn wsX5_plot (wsV RX5 166 RX3 yX3_y0Of wsX3_y0Of) := goodIn_app (goodIn_of _ (by decide +kernel)) ggX5_plot_X3_y0Of
set_option maxRecDepth 20000 in
theorem ggX5_plot_X3_x1Of : GoodIn wsX5_plot wsX3_x1Of := goodIn_r _ [52, 16, 18, 19, 20, 21, 22, 23, 24, 25, 4, 26, 87, 88, 89, 90, 91, 92] (by decide +kernel) (by decide +kernel)
set_option maxRecDepth 20000 in
theorem gX5_plot_X3_x1Of : GoodIn wsX5_plot (wsV RX5 169 RX3 yX3_x1Of wsX3_x1Of) := goodIn_app (goodIn_of _ (by decide +kernel)) ggX5_plot_X3_x1Of
set_option maxRecDepth 20000 in
theorem ggX5_plot_X3_y1Of : GoodIn wsX5_plot wsX3_y1Of := goodIn_r _ [56, 17, 18, 19, 20, 21, 22, 23, 24, 27, 4, 28, 87, 88, 89, 90, 91, 92] (by decide +kernel) (by decide +kernel)
set_option maxRecDepth 20000 in
theorem gX5_plot_X3_y1Of : GoodIn wsX5_plot (wsV RX5 172 RX3 yX3_y1Of wsX3_y1Of) := goodIn_app (goodIn_of _ (by decide +kernel)) ggX5_plot_X3_y1Of
set_option maxRecDepth 20000 in
theorem ggX5_plot_X3_manyBeside : GoodIn wsX5_plot wsX3_manyBeside := goodIn_r _ [60, 11, 61, 62, 63, 9, 64, 65, 42, 43, 44, 16, 19, 20, 21, 22, 23, 24, 66, 50, 51, 52, 18, 25, 4, 26, 67, 46, 47, 48, 17, 68, 54, 55, 56, 27, 28, 87, 88, 89, 90, 91, 92] (by decide +kernel) (by decide +kernel)
set_option maxRecDepth 20000 in
theorem gX5_plot_X3_manyBeside : GoodIn wsX5_plot (wsV RX5 175 RX3 yX3_manyBeside wsX3_manyBeside) := goodIn_app (goodIn_of _ (by decide +kernel)) ggX5_plot_X3_manyBeside
theorem dX5_plot_0 : decode cX5_plot 0 = .ok (.iload_n 1, 1) := by decide +kernel
theorem dX5_plot_1 : decode cX5_plot 1 = .ok (.iload_n 2, 1) := by decide +kernel
theorem dX5_plot_2 : decode cX5_plot 2 = .ok (.invokestatic 40, 3) := by decide +kernel
theorem dX5_plot_5 : decode cX5_plot 5 = .ok (.ifCond .ne 5, 3) := by decide +kernel
theorem dX5_plot_8 : decode cX5_plot 8 = .ok (.iconst (-1), 1) := by decide +kernel
theorem dX5_plot_9 : decode cX5_plot 9 = .ok (.ireturn, 1) := by decide +kernel
theorem dX5_plot_10 : decode cX5_plot 10 = .ok (.aload_n 0, 1) := by decide +kernel
theorem dX5_plot_11 : decode cX5_plot 11 = .ok (.getfield 12, 3) := by decide +kernel
theorem dX5_plot_14 : decode cX5_plot 14 = .ok (.getfield 81, 3) := by decide +kernel
theorem dX5_plot_17 : decode cX5_plot 17 = .ok (.astore 4, 2) := by decide +kernel
theorem dX5_plot_19 : decode cX5_plot 19 = .ok (.aload 4, 2) := by decide +kernel
theorem dX5_plot_21 : decode cX5_plot 21 = .ok (.iload_n 1, 1) := by decide +kernel
theorem dX5_plot_22 : decode cX5_plot 22 = .ok (.iload_n 2, 1) := by decide +kernel
theorem dX5_plot_23 : decode cX5_plot 23 = .ok (.invokevirtual 85, 3) := by decide +kernel
theorem dX5_plot_26 : decode cX5_plot 26 = .ok (.istore 5, 2) := by decide +kernel
theorem dX5_plot_28 : decode cX5_plot 28 = .ok (.iload_n 3, 1) := by decide +kernel
theorem dX5_plot_29 : decode cX5_plot 29 = .ok (.tableswitch 102 0 6 #[43, 54, 62, 70, 78, 86, 94], 43) := by decide +kernel
theorem dX5_plot_72 : decode cX5_plot 72 = .ok (.aload 4, 2) := by decide +kernel
theorem dX5_plot_74 : decode cX5_plot 74 = .ok (.iload 5, 2) := by decide +kernel
theorem dX5_plot_76 : decode cX5_plot 76 = .ok (.invokevirtual 90, 3) := by decide +kernel
theorem dX5_plot_79 : decode cX5_plot 79 = .ok (.invokestatic 160, 3) := by decide +kernel
theorem dX5_plot_82 : decode cX5_plot 82 = .ok (.ireturn, 1) := by decide +kernel
theorem dX5_plot_83 : decode cX5_plot 83 = .ok (.aload 4, 2) := by decide +kernel
theorem dX5_plot_85 : decode cX5_plot 85 = .ok (.iload 5, 2) := by decide +kernel
theorem dX5_plot_87 : decode cX5_plot 87 = .ok (.invokevirtual 109, 3) := by decide +kernel
theorem dX5_plot_90 : decode cX5_plot 90 = .ok (.ireturn, 1) := by decide +kernel
theorem dX5_plot_91 : decode cX5_plot 91 = .ok (.aload 4, 2) := by decide +kernel
theorem dX5_plot_93 : decode cX5_plot 93 = .ok (.iload 5, 2) := by decide +kernel
theorem dX5_plot_95 : decode cX5_plot 95 = .ok (.invokevirtual 163, 3) := by decide +kernel
theorem dX5_plot_98 : decode cX5_plot 98 = .ok (.ireturn, 1) := by decide +kernel
theorem dX5_plot_99 : decode cX5_plot 99 = .ok (.aload 4, 2) := by decide +kernel
theorem dX5_plot_101 : decode cX5_plot 101 = .ok (.iload 5, 2) := by decide +kernel
theorem dX5_plot_103 : decode cX5_plot 103 = .ok (.invokevirtual 166, 3) := by decide +kernel
theorem dX5_plot_106 : decode cX5_plot 106 = .ok (.ireturn, 1) := by decide +kernel
theorem dX5_plot_107 : decode cX5_plot 107 = .ok (.aload 4, 2) := by decide +kernel
theorem dX5_plot_109 : decode cX5_plot 109 = .ok (.iload 5, 2) := by decide +kernel
theorem dX5_plot_111 : decode cX5_plot 111 = .ok (.invokevirtual 169, 3) := by decide +kernel
theorem dX5_plot_114 : decode cX5_plot 114 = .ok (.ireturn, 1) := by decide +kernel
theorem dX5_plot_115 : decode cX5_plot 115 = .ok (.aload 4, 2) := by decide +kernel
theorem dX5_plot_117 : decode cX5_plot 117 = .ok (.iload 5, 2) := by decide +kernel
theorem dX5_plot_119 : decode cX5_plot 119 = .ok (.invokevirtual 172, 3) := by decide +kernel
theorem dX5_plot_122 : decode cX5_plot 122 = .ok (.ireturn, 1) := by decide +kernel
theorem dX5_plot_123 : decode cX5_plot 123 = .ok (.aload 4, 2) := by decide +kernel
theorem dX5_plot_125 : decode cX5_plot 125 = .ok (.iload 5, 2) := by decide +kernel
theorem dX5_plot_127 : decode cX5_plot 127 = .ok (.invokevirtual 175, 3) := by decide +kernel
theorem dX5_plot_130 : decode cX5_plot 130 = .ok (.ireturn, 1) := by decide +kernel
theorem dX5_plot_131 : decode cX5_plot 131 = .ok (.bipush (-2), 2) := by decide +kernel
theorem dX5_plot_133 : decode cX5_plot 133 = .ok (.ireturn, 1) := by decide +kernel
set_option maxRecDepth 20000 in
theorem ggX5_camper_X0_isHere : GoodIn wsX5_camper wsX0_isHere := goodIn_r _ [6, 7, 8, 9, 10, 11, 12, 13, 14, 117, 118, 119, 120, 121, 122, 123, 124, 125, 126, 127, 128, 129] (by decide +kernel) (by decide +kernel)
set_option maxRecDepth 20000 in
theorem gX5_camper_X0_isHere : GoodIn wsX5_camper (wsV RX5 70 RX0 yX0_isHere wsX0_isHere) := goodIn_app (goodIn_of _ (by decide +kernel)) ggX5_camper_X0_isHere
set_option maxRecDepth 20000 in
theorem ggX5_camper_X4_at : GoodIn wsX5_camper wsX4_at := goodIn_r _ [13, 14, 129] (by decide +kernel) (by decide +kernel)
set_option maxRecDepth 20000 in
theorem gX5_camper_X4_at : GoodIn wsX5_camper (wsV RX5 97 RX4 yX4_at wsX4_at) := goodIn_app (goodIn_of _ (by decide +kernel)) ggX5_camper_X4_at
set_option maxRecDepth 20000 in
theorem ggX5_camper_X3_manyOf : GoodIn wsX5_camper wsX3_manyOf := goodIn_r _ [20, 21, 22, 23, 10, 11, 12, 13, 14, 130, 131, 132, 133, 134, 129] (by decide +kernel) (by decide +kernel)
set_option maxRecDepth 20000 in
theorem gX5_camper_X3_manyOf : GoodIn wsX5_camper (wsV RX5 178 RX3 yX3_manyOf wsX3_manyOf) := goodIn_app (goodIn_of _ (by decide +kernel)) ggX5_camper_X3_manyOf
set_option maxRecDepth 20000 in
theorem ggX5_camper_X3_pointsOf : GoodIn wsX5_camper wsX3_pointsOf := goodIn_r _ [27, 21, 22, 28, 23, 10, 11, 12, 13, 14, 29, 30, 31, 32, 33, 130, 131, 132, 133, 134, 129] (by decide +kernel) (by decide +kernel)
set_option maxRecDepth 20000 in
theorem gX5_camper_X3_pointsOf : GoodIn wsX5_camper (wsV RX5 181 RX3 yX3_pointsOf wsX3_pointsOf) := goodIn_app (goodIn_of _ (by decide +kernel)) ggX5_camper_X3_pointsOf
set_option maxRecDepth 20000 in
theorem ggX5_camper_X0_songsOf : GoodIn wsX5_camper wsX0_songsOf := goodIn_r _ [37, 38, 39, 40, 41, 5, 42, 43, 44, 45, 9, 10, 11, 12, 13, 14, 46, 47, 48, 19, 49, 22, 50, 51, 52, 53, 21, 54, 55, 56, 57, 58, 59, 28, 23, 29, 30, 31, 32, 33, 117, 118, 119, 120, 121, 122, 123, 124, 125, 126, 127, 128, 129, 130, 131, 132, 133, 134] (by decide +kernel) (by decide +kernel)
set_option maxRecDepth 20000 in
theorem gX5_camper_X0_songsOf : GoodIn wsX5_camper (wsV RX5 184 RX0 yX0_songsOf wsX0_songsOf) := goodIn_app (goodIn_of _ (by decide +kernel)) ggX5_camper_X0_songsOf
set_option maxRecDepth 20000 in
theorem ggX5_camper_X3_neighboursOf : GoodIn wsX5_camper wsX3_neighboursOf := goodIn_r _ [63, 21, 22, 23, 10, 11, 12, 13, 14, 64, 65, 66, 19, 67, 68, 69, 70, 71, 72, 73, 74, 75, 58, 76, 77, 78, 79, 28, 29, 30, 31, 80, 81, 82, 83, 59, 84, 85, 86, 87, 32, 33, 88, 89, 90, 91, 92, 93, 94, 95, 96, 130, 131, 132, 133, 134, 129] (by decide +kernel) (by decide +kernel)
set_option maxRecDepth 20000 in
theorem gX5_camper_X3_neighboursOf : GoodIn wsX5_camper (wsV RX5 187 RX3 yX3_neighboursOf wsX3_neighboursOf) := goodIn_app (goodIn_of _ (by decide +kernel)) ggX5_camper_X3_neighboursOf
set_option maxRecDepth 20000 in
theorem ggX5_camper_X0_loudnessOf : GoodIn wsX5_camper wsX0_loudnessOf := goodIn_r _ [100, 38, 39, 40, 41, 5, 42, 43, 44, 45, 9, 10, 11, 12, 13, 14, 46, 47, 48, 19, 49, 22, 50, 51, 52, 53, 21, 54, 55, 56, 57, 58, 59, 28, 23, 29, 30, 31, 32, 33, 101, 102, 103, 104, 105, 106, 117, 118, 119, 120, 121, 122, 123, 124, 125, 126, 127, 128, 129, 130, 131, 132, 133, 134] (by decide +kernel) (by decide +kernel)
set_option maxRecDepth 20000 in
theorem gX5_camper_X0_loudnessOf : GoodIn wsX5_camper (wsV RX5 190 RX0 yX0_loudnessOf wsX0_loudnessOf) := goodIn_app (goodIn_of _ (by decide +kernel)) ggX5_camper_X0_loudnessOf
set_option maxRecDepth 20000 in
theorem ggX5_camper_X5_bitsOf : GoodIn wsX5_camper wsX5_bitsOf := goodIn_r _ [109, 110] (by decide +kernel) (by decide +kernel)
set_option maxRecDepth 20000 in
theorem gX5_camper_X5_bitsOf : GoodIn wsX5_camper (va_wsS RX5 194 yX5_bitsOf wsX5_bitsOf) := goodIn_app (goodIn_of _ (by decide +kernel)) ggX5_camper_X5_bitsOf
theorem dX5_camper_0 : decode cX5_camper 0 = .ok (.aload_n 0, 1) := by decide +kernel
theorem dX5_camper_1 : decode cX5_camper 1 = .ok (.getfield 12, 3) := by decide +kernel
theorem dX5_camper_4 : decode cX5_camper 4 = .ok (.iload_n 1, 1) := by decide +kernel
theorem dX5_camper_5 : decode cX5_camper 5 = .ok (.invokevirtual 70, 3) := by decide +kernel
theorem dX5_camper_8 : decode cX5_camper 8 = .ok (.ifCond .ne 5, 3) := by decide +kernel
theorem dX5_camper_11 : decode cX5_camper 11 = .ok (.iconst (-1), 1) := by decide +kernel
theorem dX5_camper_12 : decode cX5_camper 12 = .ok (.ireturn, 1) := by decide +kernel
theorem dX5_camper_13 : decode cX5_camper 13 = .ok (.iload_n 2, 1) := by decide +kernel
theorem dX5_camper_14 : decode cX5_camper 14 = .ok (.tableswitch 123 0 6 #[42, 54, 66, 78, 90, 99, 111], 42) := by decide +kernel
theorem dX5_camper_56 : decode cX5_camper 56 = .ok (.aload_n 0, 1) := by decide +kernel
theorem dX5_camper_57 : decode cX5_camper 57 = .ok (.getfield 12, 3) := by decide +kernel
theorem dX5_camper_60 : decode cX5_camper 60 = .ok (.getfield 93, 3) := by decide +kernel
theorem dX5_camper_63 : decode cX5_camper 63 = .ok (.iload_n 1, 1) := by decide +kernel
theorem dX5_camper_64 : decode cX5_camper 64 = .ok (.invokevirtual 97, 3) := by decide +kernel
theorem dX5_camper_67 : decode cX5_camper 67 = .ok (.ireturn, 1) := by decide +kernel
theorem dX5_camper_68 : decode cX5_camper 68 = .ok (.aload_n 0, 1) := by decide +kernel
theorem dX5_camper_69 : decode cX5_camper 69 = .ok (.getfield 12, 3) := by decide +kernel
theorem dX5_camper_72 : decode cX5_camper 72 = .ok (.getfield 102, 3) := by decide +kernel
theorem dX5_camper_75 : decode cX5_camper 75 = .ok (.iload_n 1, 1) := by decide +kernel
theorem dX5_camper_76 : decode cX5_camper 76 = .ok (.invokevirtual 97, 3) := by decide +kernel
theorem dX5_camper_79 : decode cX5_camper 79 = .ok (.ireturn, 1) := by decide +kernel
theorem dX5_camper_80 : decode cX5_camper 80 = .ok (.aload_n 0, 1) := by decide +kernel
theorem dX5_camper_81 : decode cX5_camper 81 = .ok (.getfield 12, 3) := by decide +kernel
theorem dX5_camper_84 : decode cX5_camper 84 = .ok (.getfield 81, 3) := by decide +kernel
theorem dX5_camper_87 : decode cX5_camper 87 = .ok (.iload_n 1, 1) := by decide +kernel
theorem dX5_camper_88 : decode cX5_camper 88 = .ok (.invokevirtual 178, 3) := by decide +kernel
theorem dX5_camper_91 : decode cX5_camper 91 = .ok (.ireturn, 1) := by decide +kernel
theorem dX5_camper_92 : decode cX5_camper 92 = .ok (.aload_n 0, 1) := by decide +kernel
theorem dX5_camper_93 : decode cX5_camper 93 = .ok (.getfield 12, 3) := by decide +kernel
theorem dX5_camper_96 : decode cX5_camper 96 = .ok (.getfield 81, 3) := by decide +kernel
theorem dX5_camper_99 : decode cX5_camper 99 = .ok (.iload_n 1, 1) := by decide +kernel
theorem dX5_camper_100 : decode cX5_camper 100 = .ok (.invokevirtual 181, 3) := by decide +kernel
theorem dX5_camper_103 : decode cX5_camper 103 = .ok (.ireturn, 1) := by decide +kernel
theorem dX5_camper_104 : decode cX5_camper 104 = .ok (.aload_n 0, 1) := by decide +kernel
theorem dX5_camper_105 : decode cX5_camper 105 = .ok (.getfield 12, 3) := by decide +kernel
theorem dX5_camper_108 : decode cX5_camper 108 = .ok (.iload_n 1, 1) := by decide +kernel
theorem dX5_camper_109 : decode cX5_camper 109 = .ok (.invokevirtual 184, 3) := by decide +kernel
theorem dX5_camper_112 : decode cX5_camper 112 = .ok (.ireturn, 1) := by decide +kernel
theorem dX5_camper_113 : decode cX5_camper 113 = .ok (.aload_n 0, 1) := by decide +kernel
theorem dX5_camper_114 : decode cX5_camper 114 = .ok (.getfield 12, 3) := by decide +kernel
theorem dX5_camper_117 : decode cX5_camper 117 = .ok (.getfield 81, 3) := by decide +kernel
theorem dX5_camper_120 : decode cX5_camper 120 = .ok (.iload_n 1, 1) := by decide +kernel
theorem dX5_camper_121 : decode cX5_camper 121 = .ok (.invokevirtual 187, 3) := by decide +kernel
theorem dX5_camper_124 : decode cX5_camper 124 = .ok (.ireturn, 1) := by decide +kernel
theorem dX5_camper_125 : decode cX5_camper 125 = .ok (.aload_n 0, 1) := by decide +kernel
theorem dX5_camper_126 : decode cX5_camper 126 = .ok (.getfield 12, 3) := by decide +kernel
theorem dX5_camper_129 : decode cX5_camper 129 = .ok (.iload_n 1, 1) := by decide +kernel
theorem dX5_camper_130 : decode cX5_camper 130 = .ok (.invokevirtual 190, 3) := by decide +kernel
theorem dX5_camper_133 : decode cX5_camper 133 = .ok (.invokestatic 194, 3) := by decide +kernel
theorem dX5_camper_136 : decode cX5_camper 136 = .ok (.ireturn, 1) := by decide +kernel
theorem dX5_camper_137 : decode cX5_camper 137 = .ok (.bipush (-2), 2) := by decide +kernel
theorem dX5_camper_139 : decode cX5_camper 139 = .ok (.ireturn, 1) := by decide +kernel
set_option maxRecDepth 20000 in
theorem ggX5_plotOf_X0_isHere : GoodIn wsX5_plotOf wsX0_isHere := goodIn_r _ [6, 7, 8, 9, 10, 11, 12, 13, 14, 52, 53, 54, 55, 56, 57, 58, 59, 60, 61, 62, 63, 64] (by decide +kernel) (by decide +kernel)
set_option maxRecDepth 20000 in
theorem gX5_plotOf_X0_isHere : GoodIn wsX5_plotOf (wsV RX5 70 RX0 yX0_isHere wsX0_isHere) := goodIn_app (goodIn_of _ (by decide +kernel)) ggX5_plotOf_X0_isHere
set_option maxRecDepth 20000 in
theorem ggX5_plotOf_X3_ranked : GoodIn wsX5_plotOf wsX3_ranked := goodIn_r _ [19, 20, 21, 22, 10, 11, 12, 13, 14, 23, 24, 25, 18, 26, 27, 28, 29, 30, 31, 32, 65, 66, 67, 68, 69, 64] (by decide +kernel) (by decide +kernel)
set_option maxRecDepth 20000 in
theorem gX5_plotOf_X3_ranked : GoodIn wsX5_plotOf (wsV RX5 198 RX3 yX3_ranked wsX3_ranked) := goodIn_app (goodIn_of _ (by decide +kernel)) ggX5_plotOf_X3_ranked
set_option maxRecDepth 20000 in
theorem ggX5_plotOf_X3_x0Of : GoodIn wsX5_plotOf wsX3_x0Of := goodIn_r _ [36, 31, 22, 10, 11, 12, 13, 14, 65, 66, 67, 68, 69, 64] (by decide +kernel) (by decide +kernel)
set_option maxRecDepth 20000 in
theorem gX5_plotOf_X3_x0Of : GoodIn wsX5_plotOf (wsV RX5 163 RX3 yX3_x0Of wsX3_x0Of) := goodIn_app (goodIn_of _ (by decide +kernel)) ggX5_plotOf_X3_x0Of
set_option maxRecDepth 20000 in
theorem ggX5_plotOf_X3_y0Of : GoodIn wsX5_plotOf wsX3_y0Of := goodIn_r _ [40, 32, 22, 10, 11, 12, 13, 14, 65, 66, 67, 68, 69, 64] (by decide +kernel) (by decide +kernel)
set_option maxRecDepth 20000 in
theorem gX5_plotOf_X3_y0Of : GoodIn wsX5_plotOf (wsV RX5 166 RX3 yX3_y0Of wsX3_y0Of) := goodIn_app (goodIn_of _ (by decide +kernel)) ggX5_plotOf_X3_y0Of
set_option maxRecDepth 20000 in
theorem ggX5_plotOf_X3_depthOf : GoodIn wsX5_plotOf wsX3_depthOf := goodIn_r _ [44, 45, 22, 10, 11, 12, 13, 14, 65, 66, 67, 68, 69, 64] (by decide +kernel) (by decide +kernel)
set_option maxRecDepth 20000 in
theorem gX5_plotOf_X3_depthOf : GoodIn wsX5_plotOf (wsV RX5 109 RX3 yX3_depthOf wsX3_depthOf) := goodIn_app (goodIn_of _ (by decide +kernel)) ggX5_plotOf_X3_depthOf
theorem dX5_plotOf_0 : decode cX5_plotOf 0 = .ok (.aload_n 0, 1) := by decide +kernel
theorem dX5_plotOf_1 : decode cX5_plotOf 1 = .ok (.getfield 12, 3) := by decide +kernel
theorem dX5_plotOf_4 : decode cX5_plotOf 4 = .ok (.iload_n 1, 1) := by decide +kernel
theorem dX5_plotOf_5 : decode cX5_plotOf 5 = .ok (.invokevirtual 70, 3) := by decide +kernel
theorem dX5_plotOf_8 : decode cX5_plotOf 8 = .ok (.ifCond .ne 5, 3) := by decide +kernel
theorem dX5_plotOf_11 : decode cX5_plotOf 11 = .ok (.iconst (-1), 1) := by decide +kernel
theorem dX5_plotOf_12 : decode cX5_plotOf 12 = .ok (.ireturn, 1) := by decide +kernel
theorem dX5_plotOf_13 : decode cX5_plotOf 13 = .ok (.iload_n 2, 1) := by decide +kernel
theorem dX5_plotOf_14 : decode cX5_plotOf 14 = .ok (.ifCond .lt 12, 3) := by decide +kernel
theorem dX5_plotOf_17 : decode cX5_plotOf 17 = .ok (.iload_n 3, 1) := by decide +kernel
theorem dX5_plotOf_18 : decode cX5_plotOf 18 = .ok (.ifCond .lt 8, 3) := by decide +kernel
theorem dX5_plotOf_21 : decode cX5_plotOf 21 = .ok (.iload_n 3, 1) := by decide +kernel
theorem dX5_plotOf_22 : decode cX5_plotOf 22 = .ok (.iconst 2, 1) := by decide +kernel
theorem dX5_plotOf_23 : decode cX5_plotOf 23 = .ok (.if_icmp .le 6, 3) := by decide +kernel
theorem dX5_plotOf_26 : decode cX5_plotOf 26 = .ok (.bipush (-2), 2) := by decide +kernel
theorem dX5_plotOf_28 : decode cX5_plotOf 28 = .ok (.ireturn, 1) := by decide +kernel
theorem dX5_plotOf_29 : decode cX5_plotOf 29 = .ok (.aload_n 0, 1) := by decide +kernel
theorem dX5_plotOf_30 : decode cX5_plotOf 30 = .ok (.getfield 12, 3) := by decide +kernel
theorem dX5_plotOf_33 : decode cX5_plotOf 33 = .ok (.getfield 81, 3) := by decide +kernel
theorem dX5_plotOf_36 : decode cX5_plotOf 36 = .ok (.iload_n 1, 1) := by decide +kernel
theorem dX5_plotOf_37 : decode cX5_plotOf 37 = .ok (.iload_n 2, 1) := by decide +kernel
theorem dX5_plotOf_38 : decode cX5_plotOf 38 = .ok (.invokevirtual 198, 3) := by decide +kernel
theorem dX5_plotOf_41 : decode cX5_plotOf 41 = .ok (.istore 4, 2) := by decide +kernel
theorem dX5_plotOf_43 : decode cX5_plotOf 43 = .ok (.iload 4, 2) := by decide +kernel
theorem dX5_plotOf_45 : decode cX5_plotOf 45 = .ok (.iconst (-1), 1) := by decide +kernel
theorem dX5_plotOf_46 : decode cX5_plotOf 46 = .ok (.if_icmp .ne 6, 3) := by decide +kernel
theorem dX5_plotOf_49 : decode cX5_plotOf 49 = .ok (.bipush (-5), 2) := by decide +kernel
theorem dX5_plotOf_51 : decode cX5_plotOf 51 = .ok (.ireturn, 1) := by decide +kernel
theorem dX5_plotOf_52 : decode cX5_plotOf 52 = .ok (.iload_n 3, 1) := by decide +kernel
theorem dX5_plotOf_53 : decode cX5_plotOf 53 = .ok (.ifCond .ne 16, 3) := by decide +kernel
theorem dX5_plotOf_56 : decode cX5_plotOf 56 = .ok (.aload_n 0, 1) := by decide +kernel
theorem dX5_plotOf_57 : decode cX5_plotOf 57 = .ok (.getfield 12, 3) := by decide +kernel
theorem dX5_plotOf_60 : decode cX5_plotOf 60 = .ok (.getfield 81, 3) := by decide +kernel
theorem dX5_plotOf_63 : decode cX5_plotOf 63 = .ok (.iload 4, 2) := by decide +kernel
theorem dX5_plotOf_65 : decode cX5_plotOf 65 = .ok (.invokevirtual 163, 3) := by decide +kernel
theorem dX5_plotOf_68 : decode cX5_plotOf 68 = .ok (.ireturn, 1) := by decide +kernel
theorem dX5_plotOf_69 : decode cX5_plotOf 69 = .ok (.iload_n 3, 1) := by decide +kernel
theorem dX5_plotOf_70 : decode cX5_plotOf 70 = .ok (.iconst 1, 1) := by decide +kernel
theorem dX5_plotOf_71 : decode cX5_plotOf 71 = .ok (.if_icmp .ne 18, 3) := by decide +kernel
theorem dX5_plotOf_74 : decode cX5_plotOf 74 = .ok (.aload_n 0, 1) := by decide +kernel
theorem dX5_plotOf_75 : decode cX5_plotOf 75 = .ok (.getfield 12, 3) := by decide +kernel
theorem dX5_plotOf_78 : decode cX5_plotOf 78 = .ok (.getfield 81, 3) := by decide +kernel
theorem dX5_plotOf_81 : decode cX5_plotOf 81 = .ok (.iload 4, 2) := by decide +kernel
theorem dX5_plotOf_83 : decode cX5_plotOf 83 = .ok (.invokevirtual 166, 3) := by decide +kernel
theorem dX5_plotOf_86 : decode cX5_plotOf 86 = .ok (.goto 15, 3) := by decide +kernel
theorem dX5_plotOf_89 : decode cX5_plotOf 89 = .ok (.aload_n 0, 1) := by decide +kernel
theorem dX5_plotOf_90 : decode cX5_plotOf 90 = .ok (.getfield 12, 3) := by decide +kernel
theorem dX5_plotOf_93 : decode cX5_plotOf 93 = .ok (.getfield 81, 3) := by decide +kernel
theorem dX5_plotOf_96 : decode cX5_plotOf 96 = .ok (.iload 4, 2) := by decide +kernel
theorem dX5_plotOf_98 : decode cX5_plotOf 98 = .ok (.invokevirtual 109, 3) := by decide +kernel
theorem dX5_plotOf_101 : decode cX5_plotOf 101 = .ok (.ireturn, 1) := by decide +kernel
set_option maxRecDepth 20000 in
theorem ggX5_song_X0_isSong : GoodIn wsX5_song wsX0_isSong := goodIn_r _ [6, 7, 66, 67, 68, 69, 70, 71, 72, 73, 74, 75, 76, 77] (by decide +kernel) (by decide +kernel)
set_option maxRecDepth 20000 in
theorem gX5_song_X0_isSong : GoodIn wsX5_song (wsV RX5 132 RX0 yX0_isSong wsX0_isSong) := goodIn_app (goodIn_of _ (by decide +kernel)) ggX5_song_X0_isSong
set_option maxRecDepth 20000 in
theorem ggX5_song_X4_at : GoodIn wsX5_song wsX4_at := goodIn_r _ [12, 13, 78] (by decide +kernel) (by decide +kernel)
set_option maxRecDepth 20000 in
theorem gX5_song_X4_at : GoodIn wsX5_song (wsV RX5 97 RX4 yX4_at wsX4_at) := goodIn_app (goodIn_of _ (by decide +kernel)) ggX5_song_X4_at
set_option maxRecDepth 20000 in
theorem ggX5_song_X0_loudnessOfSong : GoodIn wsX5_song wsX0_loudnessOfSong := goodIn_r _ [17, 18, 19, 20, 9, 10, 11, 12, 13, 66, 67, 68, 69, 70, 71, 72, 73, 74, 75, 76, 77, 78] (by decide +kernel) (by decide +kernel)
set_option maxRecDepth 20000 in
theorem gX5_song_X0_loudnessOfSong : GoodIn wsX5_song (wsV RX5 201 RX0 yX0_loudnessOfSong wsX0_loudnessOfSong) := goodIn_app (goodIn_of _ (by decide +kernel)) ggX5_song_X0_loudnessOfSong
set_option maxRecDepth 20000 in
theorem ggX5_song_X5_bitsOf : GoodIn wsX5_song wsX5_bitsOf := goodIn_r _ [24, 25] (by decide +kernel) (by decide +kernel)
set_option maxRecDepth 20000 in
theorem gX5_song_X5_bitsOf : GoodIn wsX5_song (va_wsS RX5 194 yX5_bitsOf wsX5_bitsOf) := goodIn_app (goodIn_of _ (by decide +kernel)) ggX5_song_X5_bitsOf
set_option maxRecDepth 20000 in
theorem ggX5_song_X5_toldOwnerOf : GoodIn wsX5_song wsX5_toldOwnerOf := goodIn_r _ [29, 1, 30, 31, 32, 5, 33, 34, 35, 36, 20, 9, 10, 11, 12, 13, 37, 38, 39, 40, 41, 42, 43, 44, 45, 46, 47, 48, 49, 50, 51, 52, 53, 54, 55, 56, 23, 57, 58, 59, 60, 61, 62, 63, 64, 65, 66, 67, 68, 69, 70, 71, 72, 73, 74, 75, 76, 77, 78, 79, 80, 81, 82, 83] (by decide +kernel) (by decide +kernel)
set_option maxRecDepth 20000 in
theorem gX5_song_X5_toldOwnerOf : GoodIn wsX5_song (wsV RX5 144 RX5 yX5_toldOwnerOf wsX5_toldOwnerOf) := goodIn_app (goodIn_of _ (by decide +kernel)) ggX5_song_X5_toldOwnerOf
theorem dX5_song_0 : decode cX5_song 0 = .ok (.aload_n 0, 1) := by decide +kernel
theorem dX5_song_1 : decode cX5_song 1 = .ok (.getfield 12, 3) := by decide +kernel
theorem dX5_song_4 : decode cX5_song 4 = .ok (.iload_n 1, 1) := by decide +kernel
theorem dX5_song_5 : decode cX5_song 5 = .ok (.invokevirtual 132, 3) := by decide +kernel
theorem dX5_song_8 : decode cX5_song 8 = .ok (.ifCond .ne 5, 3) := by decide +kernel
theorem dX5_song_11 : decode cX5_song 11 = .ok (.iconst (-1), 1) := by decide +kernel
theorem dX5_song_12 : decode cX5_song 12 = .ok (.ireturn, 1) := by decide +kernel
theorem dX5_song_13 : decode cX5_song 13 = .ok (.iload_n 2, 1) := by decide +kernel
theorem dX5_song_14 : decode cX5_song 14 = .ok (.tableswitch 72 0 3 #[30, 42, 54, 66], 30) := by decide +kernel
theorem dX5_song_44 : decode cX5_song 44 = .ok (.aload_n 0, 1) := by decide +kernel
theorem dX5_song_45 : decode cX5_song 45 = .ok (.getfield 12, 3) := by decide +kernel
theorem dX5_song_48 : decode cX5_song 48 = .ok (.getfield 135, 3) := by decide +kernel
theorem dX5_song_51 : decode cX5_song 51 = .ok (.iload_n 1, 1) := by decide +kernel
theorem dX5_song_52 : decode cX5_song 52 = .ok (.invokevirtual 97, 3) := by decide +kernel
theorem dX5_song_55 : decode cX5_song 55 = .ok (.ireturn, 1) := by decide +kernel
theorem dX5_song_56 : decode cX5_song 56 = .ok (.aload_n 0, 1) := by decide +kernel
theorem dX5_song_57 : decode cX5_song 57 = .ok (.getfield 12, 3) := by decide +kernel
theorem dX5_song_60 : decode cX5_song 60 = .ok (.getfield 138, 3) := by decide +kernel
theorem dX5_song_63 : decode cX5_song 63 = .ok (.iload_n 1, 1) := by decide +kernel
theorem dX5_song_64 : decode cX5_song 64 = .ok (.invokevirtual 97, 3) := by decide +kernel
theorem dX5_song_67 : decode cX5_song 67 = .ok (.ireturn, 1) := by decide +kernel
theorem dX5_song_68 : decode cX5_song 68 = .ok (.aload_n 0, 1) := by decide +kernel
theorem dX5_song_69 : decode cX5_song 69 = .ok (.getfield 12, 3) := by decide +kernel
theorem dX5_song_72 : decode cX5_song 72 = .ok (.iload_n 1, 1) := by decide +kernel
theorem dX5_song_73 : decode cX5_song 73 = .ok (.invokevirtual 201, 3) := by decide +kernel
theorem dX5_song_76 : decode cX5_song 76 = .ok (.invokestatic 194, 3) := by decide +kernel
theorem dX5_song_79 : decode cX5_song 79 = .ok (.ireturn, 1) := by decide +kernel
theorem dX5_song_80 : decode cX5_song 80 = .ok (.aload_n 0, 1) := by decide +kernel
theorem dX5_song_81 : decode cX5_song 81 = .ok (.iload_n 1, 1) := by decide +kernel
theorem dX5_song_82 : decode cX5_song 82 = .ok (.invokevirtual 144, 3) := by decide +kernel
theorem dX5_song_85 : decode cX5_song 85 = .ok (.ireturn, 1) := by decide +kernel
theorem dX5_song_86 : decode cX5_song 86 = .ok (.bipush (-2), 2) := by decide +kernel
theorem dX5_song_88 : decode cX5_song 88 = .ok (.ireturn, 1) := by decide +kernel
set_option maxRecDepth 20000 in
theorem ggX5_way_X0_isHere : GoodIn wsX5_way wsX0_isHere := goodIn_r _ [6, 7, 8, 9, 10, 11, 12, 13, 14, 97, 98, 99, 100, 101, 102, 103, 104, 105, 106, 107, 108, 109] (by decide +kernel) (by decide +kernel)
set_option maxRecDepth 20000 in
theorem gX5_way_X0_isHere : GoodIn wsX5_way (wsV RX5 70 RX0 yX0_isHere wsX0_isHere) := goodIn_app (goodIn_of _ (by decide +kernel)) ggX5_way_X0_isHere
set_option maxRecDepth 20000 in
theorem ggX5_way_X5_isPoint : GoodIn wsX5_way wsX5_isPoint := goodIn_r _ [18] (by decide +kernel) (by decide +kernel)
set_option maxRecDepth 20000 in
theorem gX5_way_X5_isPoint : GoodIn wsX5_way (va_wsS RX5 40 yX5_isPoint wsX5_isPoint) := goodIn_app (goodIn_of _ (by decide +kernel)) ggX5_way_X5_isPoint
set_option maxRecDepth 20000 in
theorem ggX5_way_X0_plotOnWay : GoodIn wsX5_way wsX0_plotOnWay := goodIn_r _ [22, 23, 24, 25, 9, 10, 11, 12, 13, 14, 26, 27, 28, 29, 30, 31, 32, 33, 34, 35, 36, 37, 38, 39, 40, 17, 41, 42, 43, 44, 45, 46, 47, 48, 49, 50, 51, 52, 53, 54, 55, 56, 57, 58, 59, 60, 61, 62, 63, 64, 65, 66, 67, 68, 69, 70, 71, 72, 73, 74, 75, 76, 77, 78, 79, 80, 81, 82, 83, 97, 98, 99, 100, 101, 102, 103, 104, 105, 106, 107, 108, 109, 110, 111, 112, 113, 114] (by decide +kernel) (by decide +kernel)
set_option maxRecDepth 20000 in
theorem gX5_way_X0_plotOnWay : GoodIn wsX5_way (wsV RX5 204 RX0 yX0_plotOnWay wsX0_plotOnWay) := goodIn_app (goodIn_of _ (by decide +kernel)) ggX5_way_X0_plotOnWay
set_option maxRecDepth 20000 in
theorem ggX5_way_X3_ownerOf : GoodIn wsX5_way wsX3_ownerOf := goodIn_r _ [87, 88, 39, 10, 11, 12, 13, 14, 110, 111, 112, 113, 114, 109] (by decide +kernel) (by decide +kernel)
set_option maxRecDepth 20000 in
theorem gX5_way_X3_ownerOf : GoodIn wsX5_way (wsV RX5 90 RX3 yX3_ownerOf wsX3_ownerOf) := goodIn_app (goodIn_of _ (by decide +kernel)) ggX5_way_X3_ownerOf
set_option maxRecDepth 20000 in
theorem ggX5_way_X3_x0Of : GoodIn wsX5_way wsX3_x0Of := goodIn_r _ [56, 36, 39, 10, 11, 12, 13, 14, 110, 111, 112, 113, 114, 109] (by decide +kernel) (by decide +kernel)
set_option maxRecDepth 20000 in
theorem gX5_way_X3_x0Of : GoodIn wsX5_way (wsV RX5 163 RX3 yX3_x0Of wsX3_x0Of) := goodIn_app (goodIn_of _ (by decide +kernel)) ggX5_way_X3_x0Of
set_option maxRecDepth 20000 in
theorem ggX5_way_X3_y0Of : GoodIn wsX5_way wsX3_y0Of := goodIn_r _ [64, 37, 39, 10, 11, 12, 13, 14, 110, 111, 112, 113, 114, 109] (by decide +kernel) (by decide +kernel)
set_option maxRecDepth 20000 in
theorem gX5_way_X3_y0Of : GoodIn wsX5_way (wsV RX5 166 RX3 yX3_y0Of wsX3_y0Of) := goodIn_app (goodIn_of _ (by decide +kernel)) ggX5_way_X3_y0Of
theorem dX5_way_0 : decode cX5_way 0 = .ok (.aload_n 0, 1) := by decide +kernel
theorem dX5_way_1 : decode cX5_way 1 = .ok (.getfield 12, 3) := by decide +kernel
theorem dX5_way_4 : decode cX5_way 4 = .ok (.iload_n 1, 1) := by decide +kernel
theorem dX5_way_5 : decode cX5_way 5 = .ok (.invokevirtual 70, 3) := by decide +kernel
theorem dX5_way_8 : decode cX5_way 8 = .ok (.ifCond .eq 11, 3) := by decide +kernel
theorem dX5_way_11 : decode cX5_way 11 = .ok (.iload_n 2, 1) := by decide +kernel
theorem dX5_way_12 : decode cX5_way 12 = .ok (.iload_n 3, 1) := by decide +kernel
theorem dX5_way_13 : decode cX5_way 13 = .ok (.invokestatic 40, 3) := by decide +kernel
theorem dX5_way_16 : decode cX5_way 16 = .ok (.ifCond .ne 5, 3) := by decide +kernel
theorem dX5_way_19 : decode cX5_way 19 = .ok (.iconst (-1), 1) := by decide +kernel
theorem dX5_way_20 : decode cX5_way 20 = .ok (.ireturn, 1) := by decide +kernel
theorem dX5_way_21 : decode cX5_way 21 = .ok (.iload 4, 2) := by decide +kernel
theorem dX5_way_23 : decode cX5_way 23 = .ok (.ifCond .lt 14, 3) := by decide +kernel
theorem dX5_way_26 : decode cX5_way 26 = .ok (.iload 5, 2) := by decide +kernel
theorem dX5_way_28 : decode cX5_way 28 = .ok (.ifCond .lt 9, 3) := by decide +kernel
theorem dX5_way_31 : decode cX5_way 31 = .ok (.iload 5, 2) := by decide +kernel
theorem dX5_way_33 : decode cX5_way 33 = .ok (.iconst 2, 1) := by decide +kernel
theorem dX5_way_34 : decode cX5_way 34 = .ok (.if_icmp .le 6, 3) := by decide +kernel
theorem dX5_way_37 : decode cX5_way 37 = .ok (.bipush (-2), 2) := by decide +kernel
theorem dX5_way_39 : decode cX5_way 39 = .ok (.ireturn, 1) := by decide +kernel
theorem dX5_way_40 : decode cX5_way 40 = .ok (.aload_n 0, 1) := by decide +kernel
theorem dX5_way_41 : decode cX5_way 41 = .ok (.getfield 12, 3) := by decide +kernel
theorem dX5_way_44 : decode cX5_way 44 = .ok (.iload_n 1, 1) := by decide +kernel
theorem dX5_way_45 : decode cX5_way 45 = .ok (.iload_n 2, 1) := by decide +kernel
theorem dX5_way_46 : decode cX5_way 46 = .ok (.iload_n 3, 1) := by decide +kernel
theorem dX5_way_47 : decode cX5_way 47 = .ok (.iload 4, 2) := by decide +kernel
theorem dX5_way_49 : decode cX5_way 49 = .ok (.invokevirtual 204, 3) := by decide +kernel
theorem dX5_way_52 : decode cX5_way 52 = .ok (.istore 6, 2) := by decide +kernel
theorem dX5_way_54 : decode cX5_way 54 = .ok (.iload 6, 2) := by decide +kernel
theorem dX5_way_56 : decode cX5_way 56 = .ok (.iconst (-1), 1) := by decide +kernel
theorem dX5_way_57 : decode cX5_way 57 = .ok (.if_icmp .ne 6, 3) := by decide +kernel
theorem dX5_way_60 : decode cX5_way 60 = .ok (.bipush (-5), 2) := by decide +kernel
theorem dX5_way_62 : decode cX5_way 62 = .ok (.ireturn, 1) := by decide +kernel
theorem dX5_way_63 : decode cX5_way 63 = .ok (.iload 5, 2) := by decide +kernel
theorem dX5_way_65 : decode cX5_way 65 = .ok (.ifCond .ne 16, 3) := by decide +kernel
theorem dX5_way_68 : decode cX5_way 68 = .ok (.aload_n 0, 1) := by decide +kernel
theorem dX5_way_69 : decode cX5_way 69 = .ok (.getfield 12, 3) := by decide +kernel
theorem dX5_way_72 : decode cX5_way 72 = .ok (.getfield 81, 3) := by decide +kernel
theorem dX5_way_75 : decode cX5_way 75 = .ok (.iload 6, 2) := by decide +kernel
theorem dX5_way_77 : decode cX5_way 77 = .ok (.invokevirtual 90, 3) := by decide +kernel
theorem dX5_way_80 : decode cX5_way 80 = .ok (.ireturn, 1) := by decide +kernel
theorem dX5_way_81 : decode cX5_way 81 = .ok (.iload 5, 2) := by decide +kernel
theorem dX5_way_83 : decode cX5_way 83 = .ok (.iconst 1, 1) := by decide +kernel
theorem dX5_way_84 : decode cX5_way 84 = .ok (.if_icmp .ne 18, 3) := by decide +kernel
theorem dX5_way_87 : decode cX5_way 87 = .ok (.aload_n 0, 1) := by decide +kernel
theorem dX5_way_88 : decode cX5_way 88 = .ok (.getfield 12, 3) := by decide +kernel
theorem dX5_way_91 : decode cX5_way 91 = .ok (.getfield 81, 3) := by decide +kernel
theorem dX5_way_94 : decode cX5_way 94 = .ok (.iload 6, 2) := by decide +kernel
theorem dX5_way_96 : decode cX5_way 96 = .ok (.invokevirtual 163, 3) := by decide +kernel
theorem dX5_way_99 : decode cX5_way 99 = .ok (.goto 15, 3) := by decide +kernel
theorem dX5_way_102 : decode cX5_way 102 = .ok (.aload_n 0, 1) := by decide +kernel
theorem dX5_way_103 : decode cX5_way 103 = .ok (.getfield 12, 3) := by decide +kernel
theorem dX5_way_106 : decode cX5_way 106 = .ok (.getfield 81, 3) := by decide +kernel
theorem dX5_way_109 : decode cX5_way 109 = .ok (.iload 6, 2) := by decide +kernel
theorem dX5_way_111 : decode cX5_way 111 = .ok (.invokevirtual 166, 3) := by decide +kernel
theorem dX5_way_114 : decode cX5_way 114 = .ok (.ireturn, 1) := by decide +kernel
set_option maxRecDepth 20000 in
theorem ggX5_loudest_X0_isHere : GoodIn wsX5_loudest wsX0_isHere := goodIn_r _ [7, 8, 9, 10, 11, 12, 13, 14, 15, 64, 65, 66, 67, 68, 69, 70, 71, 72, 73, 74, 75, 76] (by decide +kernel) (by decide +kernel)
set_option maxRecDepth 20000 in
theorem gX5_loudest_X0_isHere : GoodIn wsX5_loudest (wsV RX5 70 RX0 yX0_isHere wsX0_isHere) := goodIn_app (goodIn_of _ (by decide +kernel)) ggX5_loudest_X0_isHere
set_option maxRecDepth 20000 in
theorem ggX5_loudest_X0_loudnessOf : GoodIn wsX5_loudest wsX0_loudnessOf := goodIn_r _ [19, 20, 21, 22, 23, 6, 24, 25, 26, 27, 10, 11, 12, 13, 14, 15, 28, 29, 30, 31, 32, 33, 34, 35, 36, 37, 38, 39, 40, 41, 42, 43, 44, 45, 46, 47, 48, 49, 50, 51, 52, 53, 54, 55, 56, 57, 64, 65, 66, 67, 68, 69, 70, 71, 72, 73, 74, 75, 76, 77, 78, 79, 80, 81] (by decide +kernel) (by decide +kernel)
set_option maxRecDepth 20000 in
theorem gX5_loudest_X0_loudnessOf : GoodIn wsX5_loudest (wsV RX5 190 RX0 yX0_loudnessOf wsX0_loudnessOf) := goodIn_app (goodIn_of _ (by decide +kernel)) ggX5_loudest_X0_loudnessOf
theorem dX5_loudest_0 : decode cX5_loudest 0 = .ok (.bipush (-5), 2) := by decide +kernel
theorem dX5_loudest_2 : decode cX5_loudest 2 = .ok (.istore_n 1, 1) := by decide +kernel
theorem dX5_loudest_3 : decode cX5_loudest 3 = .ok (.ldc 214, 2) := by decide +kernel
theorem dX5_loudest_5 : decode cX5_loudest 5 = .ok (.fstore_n 2, 1) := by decide +kernel
theorem dX5_loudest_6 : decode cX5_loudest 6 = .ok (.iconst 0, 1) := by decide +kernel
theorem dX5_loudest_7 : decode cX5_loudest 7 = .ok (.istore_n 3, 1) := by decide +kernel
theorem dX5_loudest_8 : decode cX5_loudest 8 = .ok (.iload_n 3, 1) := by decide +kernel
theorem dX5_loudest_9 : decode cX5_loudest 9 = .ok (.aload_n 0, 1) := by decide +kernel
theorem dX5_loudest_10 : decode cX5_loudest 10 = .ok (.getfield 12, 3) := by decide +kernel
theorem dX5_loudest_13 : decode cX5_loudest 13 = .ok (.getfield 215, 3) := by decide +kernel
theorem dX5_loudest_16 : decode cX5_loudest 16 = .ok (.if_icmp .ge 42, 3) := by decide +kernel
theorem dX5_loudest_19 : decode cX5_loudest 19 = .ok (.aload_n 0, 1) := by decide +kernel
theorem dX5_loudest_20 : decode cX5_loudest 20 = .ok (.getfield 12, 3) := by decide +kernel
theorem dX5_loudest_23 : decode cX5_loudest 23 = .ok (.iload_n 3, 1) := by decide +kernel
theorem dX5_loudest_24 : decode cX5_loudest 24 = .ok (.invokevirtual 70, 3) := by decide +kernel
theorem dX5_loudest_27 : decode cX5_loudest 27 = .ok (.ifCond .eq 25, 3) := by decide +kernel
theorem dX5_loudest_30 : decode cX5_loudest 30 = .ok (.aload_n 0, 1) := by decide +kernel
theorem dX5_loudest_31 : decode cX5_loudest 31 = .ok (.getfield 12, 3) := by decide +kernel
theorem dX5_loudest_34 : decode cX5_loudest 34 = .ok (.iload_n 3, 1) := by decide +kernel
theorem dX5_loudest_35 : decode cX5_loudest 35 = .ok (.invokevirtual 190, 3) := by decide +kernel
theorem dX5_loudest_38 : decode cX5_loudest 38 = .ok (.fstore 4, 2) := by decide +kernel
theorem dX5_loudest_40 : decode cX5_loudest 40 = .ok (.fload 4, 2) := by decide +kernel
theorem dX5_loudest_42 : decode cX5_loudest 42 = .ok (.fload_n 2, 1) := by decide +kernel
theorem dX5_loudest_43 : decode cX5_loudest 43 = .ok (.fcmp .l, 1) := by decide +kernel
theorem dX5_loudest_44 : decode cX5_loudest 44 = .ok (.ifCond .le 8, 3) := by decide +kernel
theorem dX5_loudest_47 : decode cX5_loudest 47 = .ok (.fload 4, 2) := by decide +kernel
theorem dX5_loudest_49 : decode cX5_loudest 49 = .ok (.fstore_n 2, 1) := by decide +kernel
theorem dX5_loudest_50 : decode cX5_loudest 50 = .ok (.iload_n 3, 1) := by decide +kernel
theorem dX5_loudest_51 : decode cX5_loudest 51 = .ok (.istore_n 1, 1) := by decide +kernel
theorem dX5_loudest_52 : decode cX5_loudest 52 = .ok (.iinc 3 1, 3) := by decide +kernel
theorem dX5_loudest_55 : decode cX5_loudest 55 = .ok (.goto (-47), 3) := by decide +kernel
theorem dX5_loudest_58 : decode cX5_loudest 58 = .ok (.iload_n 1, 1) := by decide +kernel
theorem dX5_loudest_59 : decode cX5_loudest 59 = .ok (.ireturn, 1) := by decide +kernel
set_option maxRecDepth 20000 in
theorem ggX5_count_X0_campersHere : GoodIn wsX5_count wsX0_campersHere := goodIn_r _ [8, 9, 10, 11, 12, 13, 14, 15, 16, 52, 53, 54, 55, 56, 57, 58, 59, 60, 61, 62, 63, 74] (by decide +kernel) (by decide +kernel)
set_option maxRecDepth 20000 in
theorem gX5_count_X0_campersHere : GoodIn wsX5_count (wsV RX5 78 RX0 yX0_campersHere wsX0_campersHere) := goodIn_app (goodIn_of _ (by decide +kernel)) ggX5_count_X0_campersHere
set_option maxRecDepth 20000 in
theorem ggX5_count_X3_greatestDepth : GoodIn wsX5_count wsX3_greatestDepth := goodIn_r _ [21, 22, 23, 24, 25, 26, 27, 28, 12, 13, 14, 15, 16, 64, 65, 66, 67, 68, 74] (by decide +kernel) (by decide +kernel)
set_option maxRecDepth 20000 in
theorem gX5_count_X3_greatestDepth : GoodIn wsX5_count (wsV RX5 220 RX3 yX3_greatestDepth wsX3_greatestDepth) := goodIn_app (goodIn_of _ (by decide +kernel)) ggX5_count_X3_greatestDepth
set_option maxRecDepth 20000 in
theorem ggX5_count_X3_leastDepth : GoodIn wsX5_count wsX3_leastDepth := goodIn_r _ [32, 22, 23, 33, 34, 26, 35, 28, 12, 13, 14, 15, 16, 64, 65, 66, 67, 68, 74] (by decide +kernel) (by decide +kernel)
set_option maxRecDepth 20000 in
theorem gX5_count_X3_leastDepth : GoodIn wsX5_count (wsV RX5 223 RX3 yX3_leastDepth wsX3_leastDepth) := goodIn_app (goodIn_of _ (by decide +kernel)) ggX5_count_X3_leastDepth
set_option maxRecDepth 20000 in
theorem ggX5_count_X0_campersWithMorePlots : GoodIn wsX5_count wsX0_campersWithMorePlots := goodIn_r _ [39, 9, 40, 41, 42, 43, 20, 44, 22, 45, 28, 12, 13, 14, 15, 16, 52, 53, 54, 55, 56, 57, 58, 59, 60, 61, 62, 63, 64, 65, 66, 67, 68, 74] (by decide +kernel) (by decide +kernel)
set_option maxRecDepth 20000 in
theorem gX5_count_X0_campersWithMorePlots : GoodIn wsX5_count (wsV RX5 226 RX0 yX0_campersWithMorePlots wsX0_campersWithMorePlots) := goodIn_app (goodIn_of _ (by decide +kernel)) ggX5_count_X0_campersWithMorePlots
theorem dX5_count_0 : decode cX5_count 0 = .ok (.iload_n 1, 1) := by decide +kernel
theorem dX5_count_1 : decode cX5_count 1 = .ok (.tableswitch 168 0 11 #[63, 71, 79, 90, 98, 109, 120, 128, 136, 144, 152, 160], 63) := by decide +kernel
theorem dX5_count_64 : decode cX5_count 64 = .ok (.aload_n 0, 1) := by decide +kernel
theorem dX5_count_65 : decode cX5_count 65 = .ok (.getfield 12, 3) := by decide +kernel
theorem dX5_count_68 : decode cX5_count 68 = .ok (.invokevirtual 78, 3) := by decide +kernel
theorem dX5_count_71 : decode cX5_count 71 = .ok (.ireturn, 1) := by decide +kernel
theorem dX5_count_72 : decode cX5_count 72 = .ok (.aload_n 0, 1) := by decide +kernel
theorem dX5_count_73 : decode cX5_count 73 = .ok (.getfield 12, 3) := by decide +kernel
theorem dX5_count_76 : decode cX5_count 76 = .ok (.getfield 215, 3) := by decide +kernel
theorem dX5_count_79 : decode cX5_count 79 = .ok (.ireturn, 1) := by decide +kernel
theorem dX5_count_80 : decode cX5_count 80 = .ok (.aload_n 0, 1) := by decide +kernel
theorem dX5_count_81 : decode cX5_count 81 = .ok (.getfield 12, 3) := by decide +kernel
theorem dX5_count_84 : decode cX5_count 84 = .ok (.getfield 81, 3) := by decide +kernel
theorem dX5_count_87 : decode cX5_count 87 = .ok (.getfield 219, 3) := by decide +kernel
theorem dX5_count_90 : decode cX5_count 90 = .ok (.ireturn, 1) := by decide +kernel
theorem dX5_count_91 : decode cX5_count 91 = .ok (.aload_n 0, 1) := by decide +kernel
theorem dX5_count_92 : decode cX5_count 92 = .ok (.getfield 12, 3) := by decide +kernel
theorem dX5_count_95 : decode cX5_count 95 = .ok (.getfield 125, 3) := by decide +kernel
theorem dX5_count_98 : decode cX5_count 98 = .ok (.ireturn, 1) := by decide +kernel
theorem dX5_count_99 : decode cX5_count 99 = .ok (.aload_n 0, 1) := by decide +kernel
theorem dX5_count_100 : decode cX5_count 100 = .ok (.getfield 12, 3) := by decide +kernel
theorem dX5_count_103 : decode cX5_count 103 = .ok (.getfield 81, 3) := by decide +kernel
theorem dX5_count_106 : decode cX5_count 106 = .ok (.invokevirtual 220, 3) := by decide +kernel
theorem dX5_count_109 : decode cX5_count 109 = .ok (.ireturn, 1) := by decide +kernel
theorem dX5_count_110 : decode cX5_count 110 = .ok (.aload_n 0, 1) := by decide +kernel
theorem dX5_count_111 : decode cX5_count 111 = .ok (.getfield 12, 3) := by decide +kernel
theorem dX5_count_114 : decode cX5_count 114 = .ok (.getfield 81, 3) := by decide +kernel
theorem dX5_count_117 : decode cX5_count 117 = .ok (.invokevirtual 223, 3) := by decide +kernel
theorem dX5_count_120 : decode cX5_count 120 = .ok (.ireturn, 1) := by decide +kernel
theorem dX5_count_121 : decode cX5_count 121 = .ok (.aload_n 0, 1) := by decide +kernel
theorem dX5_count_122 : decode cX5_count 122 = .ok (.getfield 12, 3) := by decide +kernel
theorem dX5_count_125 : decode cX5_count 125 = .ok (.invokevirtual 226, 3) := by decide +kernel
theorem dX5_count_128 : decode cX5_count 128 = .ok (.ireturn, 1) := by decide +kernel
theorem dX5_count_129 : decode cX5_count 129 = .ok (.aload_n 0, 1) := by decide +kernel
theorem dX5_count_130 : decode cX5_count 130 = .ok (.getfield 12, 3) := by decide +kernel
theorem dX5_count_133 : decode cX5_count 133 = .ok (.getfield 229, 3) := by decide +kernel
theorem dX5_count_136 : decode cX5_count 136 = .ok (.ireturn, 1) := by decide +kernel
theorem dX5_count_137 : decode cX5_count 137 = .ok (.aload_n 0, 1) := by decide +kernel
theorem dX5_count_138 : decode cX5_count 138 = .ok (.getfield 12, 3) := by decide +kernel
theorem dX5_count_141 : decode cX5_count 141 = .ok (.getfield 232, 3) := by decide +kernel
theorem dX5_count_144 : decode cX5_count 144 = .ok (.ireturn, 1) := by decide +kernel
theorem dX5_count_145 : decode cX5_count 145 = .ok (.aload_n 0, 1) := by decide +kernel
theorem dX5_count_146 : decode cX5_count 146 = .ok (.getfield 12, 3) := by decide +kernel
theorem dX5_count_149 : decode cX5_count 149 = .ok (.getfield 235, 3) := by decide +kernel
theorem dX5_count_152 : decode cX5_count 152 = .ok (.ireturn, 1) := by decide +kernel
theorem dX5_count_153 : decode cX5_count 153 = .ok (.aload_n 0, 1) := by decide +kernel
theorem dX5_count_154 : decode cX5_count 154 = .ok (.getfield 25, 3) := by decide +kernel
theorem dX5_count_157 : decode cX5_count 157 = .ok (.getfield 154, 3) := by decide +kernel
theorem dX5_count_160 : decode cX5_count 160 = .ok (.ireturn, 1) := by decide +kernel
theorem dX5_count_161 : decode cX5_count 161 = .ok (.aload_n 0, 1) := by decide +kernel
theorem dX5_count_162 : decode cX5_count 162 = .ok (.getfield 32, 3) := by decide +kernel
theorem dX5_count_165 : decode cX5_count 165 = .ok (.getfield 151, 3) := by decide +kernel
theorem dX5_count_168 : decode cX5_count 168 = .ok (.ireturn, 1) := by decide +kernel
theorem dX5_count_169 : decode cX5_count 169 = .ok (.bipush (-2), 2) := by decide +kernel
theorem dX5_count_171 : decode cX5_count 171 = .ok (.ireturn, 1) := by decide +kernel
set_option maxRecDepth 20000 in
theorem ggX5_toldOwnerOf_X0_ownerOfSong : GoodIn wsX5_toldOwnerOf wsX0_ownerOfSong := goodIn_r _ [6, 7, 8, 9, 10, 11, 12, 13, 14, 15, 16, 17, 18, 19, 20, 21, 22, 23, 24, 25, 26, 27, 28, 29, 30, 31, 32, 33, 34, 35, 36, 37, 38, 39, 46, 47, 48, 49, 50, 51, 52, 53, 54, 55, 56, 57, 58, 59, 60, 61, 62, 63] (by decide +kernel) (by decide +kernel)
set_option maxRecDepth 20000 in
theorem gX5_toldOwnerOf_X0_ownerOfSong : GoodIn wsX5_toldOwnerOf (wsV RX5 238 RX0 yX0_ownerOfSong wsX0_ownerOfSong) := goodIn_app (goodIn_of _ (by decide +kernel)) ggX5_toldOwnerOf_X0_ownerOfSong
theorem dX5_toldOwnerOf_0 : decode cX5_toldOwnerOf 0 = .ok (.aload_n 0, 1) := by decide +kernel
theorem dX5_toldOwnerOf_1 : decode cX5_toldOwnerOf 1 = .ok (.getfield 12, 3) := by decide +kernel
theorem dX5_toldOwnerOf_4 : decode cX5_toldOwnerOf 4 = .ok (.iload_n 1, 1) := by decide +kernel
theorem dX5_toldOwnerOf_5 : decode cX5_toldOwnerOf 5 = .ok (.invokevirtual 238, 3) := by decide +kernel
theorem dX5_toldOwnerOf_8 : decode cX5_toldOwnerOf 8 = .ok (.istore_n 2, 1) := by decide +kernel
theorem dX5_toldOwnerOf_9 : decode cX5_toldOwnerOf 9 = .ok (.iload_n 2, 1) := by decide +kernel
theorem dX5_toldOwnerOf_10 : decode cX5_toldOwnerOf 10 = .ok (.iconst (-1), 1) := by decide +kernel
theorem dX5_toldOwnerOf_11 : decode cX5_toldOwnerOf 11 = .ok (.if_icmp .ne 8, 3) := by decide +kernel
theorem dX5_toldOwnerOf_14 : decode cX5_toldOwnerOf 14 = .ok (.bipush 100, 2) := by decide +kernel
theorem dX5_toldOwnerOf_16 : decode cX5_toldOwnerOf 16 = .ok (.goto 4, 3) := by decide +kernel
theorem dX5_toldOwnerOf_19 : decode cX5_toldOwnerOf 19 = .ok (.iload_n 2, 1) := by decide +kernel
theorem dX5_toldOwnerOf_20 : decode cX5_toldOwnerOf 20 = .ok (.ireturn, 1) := by decide +kernel
theorem dX5_orNone_0 : decode cX5_orNone 0 = .ok (.iload_n 0, 1) := by decide +kernel
theorem dX5_orNone_1 : decode cX5_orNone 1 = .ok (.iconst (-1), 1) := by decide +kernel
theorem dX5_orNone_2 : decode cX5_orNone 2 = .ok (.if_icmp .ne 8, 3) := by decide +kernel
theorem dX5_orNone_5 : decode cX5_orNone 5 = .ok (.bipush (-5), 2) := by decide +kernel
theorem dX5_orNone_7 : decode cX5_orNone 7 = .ok (.goto 4, 3) := by decide +kernel
theorem dX5_orNone_10 : decode cX5_orNone 10 = .ok (.iload_n 0, 1) := by decide +kernel
theorem dX5_orNone_11 : decode cX5_orNone 11 = .ok (.ireturn, 1) := by decide +kernel
theorem dX5_isPoint_0 : decode cX5_isPoint 0 = .ok (.iload_n 0, 1) := by decide +kernel
theorem dX5_isPoint_1 : decode cX5_isPoint 1 = .ok (.ifCond .lt 23, 3) := by decide +kernel
theorem dX5_isPoint_4 : decode cX5_isPoint 4 = .ok (.iload_n 0, 1) := by decide +kernel
theorem dX5_isPoint_5 : decode cX5_isPoint 5 = .ok (.bipush 64, 2) := by decide +kernel
theorem dX5_isPoint_7 : decode cX5_isPoint 7 = .ok (.if_icmp .ge 17, 3) := by decide +kernel
theorem dX5_isPoint_10 : decode cX5_isPoint 10 = .ok (.iload_n 1, 1) := by decide +kernel
theorem dX5_isPoint_11 : decode cX5_isPoint 11 = .ok (.ifCond .lt 13, 3) := by decide +kernel
theorem dX5_isPoint_14 : decode cX5_isPoint 14 = .ok (.iload_n 1, 1) := by decide +kernel
theorem dX5_isPoint_15 : decode cX5_isPoint 15 = .ok (.bipush 64, 2) := by decide +kernel
theorem dX5_isPoint_17 : decode cX5_isPoint 17 = .ok (.if_icmp .ge 7, 3) := by decide +kernel
theorem dX5_isPoint_20 : decode cX5_isPoint 20 = .ok (.iconst 1, 1) := by decide +kernel
theorem dX5_isPoint_21 : decode cX5_isPoint 21 = .ok (.goto 4, 3) := by decide +kernel
theorem dX5_isPoint_24 : decode cX5_isPoint 24 = .ok (.iconst 0, 1) := by decide +kernel
theorem dX5_isPoint_25 : decode cX5_isPoint 25 = .ok (.ireturn, 1) := by decide +kernel
set_option maxRecDepth 20000 in
theorem ggX5_isMarked_X5_markOf : GoodIn wsX5_isMarked wsX5_markOf := goodIn_r _ [4] (by decide +kernel) (by decide +kernel)
set_option maxRecDepth 20000 in
theorem gX5_isMarked_X5_markOf : GoodIn wsX5_isMarked (va_wsS RX5 241 yX5_markOf wsX5_markOf) := goodIn_app (goodIn_of _ (by decide +kernel)) ggX5_isMarked_X5_markOf
theorem dX5_isMarked_0 : decode cX5_isMarked 0 = .ok (.iload_n 0, 1) := by decide +kernel
theorem dX5_isMarked_1 : decode cX5_isMarked 1 = .ok (.iload_n 1, 1) := by decide +kernel
theorem dX5_isMarked_2 : decode cX5_isMarked 2 = .ok (.invokestatic 241, 3) := by decide +kernel
theorem dX5_isMarked_5 : decode cX5_isMarked 5 = .ok (.iand, 1) := by decide +kernel
theorem dX5_isMarked_6 : decode cX5_isMarked 6 = .ok (.ifCond .eq 7, 3) := by decide +kernel
theorem dX5_isMarked_9 : decode cX5_isMarked 9 = .ok (.iconst 1, 1) := by decide +kernel
theorem dX5_isMarked_10 : decode cX5_isMarked 10 = .ok (.goto 4, 3) := by decide +kernel
theorem dX5_isMarked_13 : decode cX5_isMarked 13 = .ok (.iconst 0, 1) := by decide +kernel
theorem dX5_isMarked_14 : decode cX5_isMarked 14 = .ok (.ireturn, 1) := by decide +kernel
theorem dX5_markOf_0 : decode cX5_markOf 0 = .ok (.iload_n 0, 1) := by decide +kernel
theorem dX5_markOf_1 : decode cX5_markOf 1 = .ok (.ifCond .lt 15, 3) := by decide +kernel
theorem dX5_markOf_4 : decode cX5_markOf 4 = .ok (.iload_n 0, 1) := by decide +kernel
theorem dX5_markOf_5 : decode cX5_markOf 5 = .ok (.bipush 16, 2) := by decide +kernel
theorem dX5_markOf_7 : decode cX5_markOf 7 = .ok (.if_icmp .ge 9, 3) := by decide +kernel
theorem dX5_markOf_10 : decode cX5_markOf 10 = .ok (.iconst 1, 1) := by decide +kernel
theorem dX5_markOf_11 : decode cX5_markOf 11 = .ok (.iload_n 0, 1) := by decide +kernel
theorem dX5_markOf_12 : decode cX5_markOf 12 = .ok (.ishl, 1) := by decide +kernel
theorem dX5_markOf_13 : decode cX5_markOf 13 = .ok (.goto 4, 3) := by decide +kernel
theorem dX5_markOf_16 : decode cX5_markOf 16 = .ok (.iconst 0, 1) := by decide +kernel
theorem dX5_markOf_17 : decode cX5_markOf 17 = .ok (.ireturn, 1) := by decide +kernel
theorem dX5_widthAt_0 : decode cX5_widthAt 0 = .ok (.bipush 64, 2) := by decide +kernel
theorem dX5_widthAt_2 : decode cX5_widthAt 2 = .ok (.iload_n 0, 1) := by decide +kernel
theorem dX5_widthAt_3 : decode cX5_widthAt 3 = .ok (.iconst 1, 1) := by decide +kernel
theorem dX5_widthAt_4 : decode cX5_widthAt 4 = .ok (.iadd, 1) := by decide +kernel
theorem dX5_widthAt_5 : decode cX5_widthAt 5 = .ok (.iconst 1, 1) := by decide +kernel
theorem dX5_widthAt_6 : decode cX5_widthAt 6 = .ok (.ishr, 1) := by decide +kernel
theorem dX5_widthAt_7 : decode cX5_widthAt 7 = .ok (.ishr, 1) := by decide +kernel
theorem dX5_widthAt_8 : decode cX5_widthAt 8 = .ok (.ireturn, 1) := by decide +kernel
theorem dX5_heightAt_0 : decode cX5_heightAt 0 = .ok (.bipush 64, 2) := by decide +kernel
theorem dX5_heightAt_2 : decode cX5_heightAt 2 = .ok (.iload_n 0, 1) := by decide +kernel
theorem dX5_heightAt_3 : decode cX5_heightAt 3 = .ok (.iconst 1, 1) := by decide +kernel
theorem dX5_heightAt_4 : decode cX5_heightAt 4 = .ok (.ishr, 1) := by decide +kernel
theorem dX5_heightAt_5 : decode cX5_heightAt 5 = .ok (.ishr, 1) := by decide +kernel
theorem dX5_heightAt_6 : decode cX5_heightAt 6 = .ok (.ireturn, 1) := by decide +kernel
set_option maxRecDepth 20000 in
theorem ggX5_partX0_X5_widthAt : GoodIn wsX5_partX0 wsX5_widthAt := goodIn_r _ [4] (by decide +kernel) (by decide +kernel)
set_option maxRecDepth 20000 in
theorem gX5_partX0_X5_widthAt : GoodIn wsX5_partX0 (va_wsS RX5 244 yX5_widthAt wsX5_widthAt) := goodIn_app (goodIn_of _ (by decide +kernel)) ggX5_partX0_X5_widthAt
theorem dX5_partX0_0 : decode cX5_partX0 0 = .ok (.iload_n 0, 1) := by decide +kernel
theorem dX5_partX0_1 : decode cX5_partX0 1 = .ok (.iload_n 1, 1) := by decide +kernel
theorem dX5_partX0_2 : decode cX5_partX0 2 = .ok (.invokestatic 244, 3) := by decide +kernel
theorem dX5_partX0_5 : decode cX5_partX0 5 = .ok (.ineg, 1) := by decide +kernel
theorem dX5_partX0_6 : decode cX5_partX0 6 = .ok (.iand, 1) := by decide +kernel
theorem dX5_partX0_7 : decode cX5_partX0 7 = .ok (.ireturn, 1) := by decide +kernel
set_option maxRecDepth 20000 in
theorem ggX5_partY0_X5_heightAt : GoodIn wsX5_partY0 wsX5_heightAt := goodIn_r _ [4] (by decide +kernel) (by decide +kernel)
set_option maxRecDepth 20000 in
theorem gX5_partY0_X5_heightAt : GoodIn wsX5_partY0 (va_wsS RX5 247 yX5_heightAt wsX5_heightAt) := goodIn_app (goodIn_of _ (by decide +kernel)) ggX5_partY0_X5_heightAt
theorem dX5_partY0_0 : decode cX5_partY0 0 = .ok (.iload_n 0, 1) := by decide +kernel
theorem dX5_partY0_1 : decode cX5_partY0 1 = .ok (.iload_n 1, 1) := by decide +kernel
theorem dX5_partY0_2 : decode cX5_partY0 2 = .ok (.invokestatic 247, 3) := by decide +kernel
theorem dX5_partY0_5 : decode cX5_partY0 5 = .ok (.ineg, 1) := by decide +kernel
theorem dX5_partY0_6 : decode cX5_partY0 6 = .ok (.iand, 1) := by decide +kernel
theorem dX5_partY0_7 : decode cX5_partY0 7 = .ok (.ireturn, 1) := by decide +kernel
set_option maxRecDepth 20000 in
theorem ggX5_otherHalfX0_X5_widthAt : GoodIn wsX5_otherHalfX0 wsX5_widthAt := goodIn_r _ [4] (by decide +kernel) (by decide +kernel)
set_option maxRecDepth 20000 in
theorem gX5_otherHalfX0_X5_widthAt : GoodIn wsX5_otherHalfX0 (va_wsS RX5 244 yX5_widthAt wsX5_widthAt) := goodIn_app (goodIn_of _ (by decide +kernel)) ggX5_otherHalfX0_X5_widthAt
theorem dX5_otherHalfX0_0 : decode cX5_otherHalfX0 0 = .ok (.iload_n 1, 1) := by decide +kernel
theorem dX5_otherHalfX0_1 : decode cX5_otherHalfX0 1 = .ok (.iconst 1, 1) := by decide +kernel
theorem dX5_otherHalfX0_2 : decode cX5_otherHalfX0 2 = .ok (.iand, 1) := by decide +kernel
theorem dX5_otherHalfX0_3 : decode cX5_otherHalfX0 3 = .ok (.iconst 1, 1) := by decide +kernel
theorem dX5_otherHalfX0_4 : decode cX5_otherHalfX0 4 = .ok (.if_icmp .ne 12, 3) := by decide +kernel
theorem dX5_otherHalfX0_7 : decode cX5_otherHalfX0 7 = .ok (.iload_n 0, 1) := by decide +kernel
theorem dX5_otherHalfX0_8 : decode cX5_otherHalfX0 8 = .ok (.iload_n 1, 1) := by decide +kernel
theorem dX5_otherHalfX0_9 : decode cX5_otherHalfX0 9 = .ok (.invokestatic 244, 3) := by decide +kernel
theorem dX5_otherHalfX0_12 : decode cX5_otherHalfX0 12 = .ok (.ixor, 1) := by decide +kernel
theorem dX5_otherHalfX0_13 : decode cX5_otherHalfX0 13 = .ok (.goto 4, 3) := by decide +kernel
theorem dX5_otherHalfX0_16 : decode cX5_otherHalfX0 16 = .ok (.iload_n 0, 1) := by decide +kernel
theorem dX5_otherHalfX0_17 : decode cX5_otherHalfX0 17 = .ok (.ireturn, 1) := by decide +kernel
set_option maxRecDepth 20000 in
theorem ggX5_otherHalfY0_X5_heightAt : GoodIn wsX5_otherHalfY0 wsX5_heightAt := goodIn_r _ [4] (by decide +kernel) (by decide +kernel)
set_option maxRecDepth 20000 in
theorem gX5_otherHalfY0_X5_heightAt : GoodIn wsX5_otherHalfY0 (va_wsS RX5 247 yX5_heightAt wsX5_heightAt) := goodIn_app (goodIn_of _ (by decide +kernel)) ggX5_otherHalfY0_X5_heightAt
theorem dX5_otherHalfY0_0 : decode cX5_otherHalfY0 0 = .ok (.iload_n 1, 1) := by decide +kernel
theorem dX5_otherHalfY0_1 : decode cX5_otherHalfY0 1 = .ok (.iconst 1, 1) := by decide +kernel
theorem dX5_otherHalfY0_2 : decode cX5_otherHalfY0 2 = .ok (.iand, 1) := by decide +kernel
theorem dX5_otherHalfY0_3 : decode cX5_otherHalfY0 3 = .ok (.ifCond .ne 12, 3) := by decide +kernel
theorem dX5_otherHalfY0_6 : decode cX5_otherHalfY0 6 = .ok (.iload_n 0, 1) := by decide +kernel
theorem dX5_otherHalfY0_7 : decode cX5_otherHalfY0 7 = .ok (.iload_n 1, 1) := by decide +kernel
theorem dX5_otherHalfY0_8 : decode cX5_otherHalfY0 8 = .ok (.invokestatic 247, 3) := by decide +kernel
theorem dX5_otherHalfY0_11 : decode cX5_otherHalfY0 11 = .ok (.ixor, 1) := by decide +kernel
theorem dX5_otherHalfY0_12 : decode cX5_otherHalfY0 12 = .ok (.goto 4, 3) := by decide +kernel
theorem dX5_otherHalfY0_15 : decode cX5_otherHalfY0 15 = .ok (.iload_n 0, 1) := by decide +kernel
theorem dX5_otherHalfY0_16 : decode cX5_otherHalfY0 16 = .ok (.ireturn, 1) := by decide +kernel
theorem dX5_bitsOf_0 : decode cX5_bitsOf 0 = .ok (.fload_n 0, 1) := by decide +kernel
theorem dX5_bitsOf_1 : decode cX5_bitsOf 1 = .ok (.fconst 0, 1) := by decide +kernel
theorem dX5_bitsOf_2 : decode cX5_bitsOf 2 = .ok (.fcmp .g, 1) := by decide +kernel
theorem dX5_bitsOf_3 : decode cX5_bitsOf 3 = .ok (.ifCond .gt 5, 3) := by decide +kernel
theorem dX5_bitsOf_6 : decode cX5_bitsOf 6 = .ok (.iconst 0, 1) := by decide +kernel
theorem dX5_bitsOf_7 : decode cX5_bitsOf 7 = .ok (.ireturn, 1) := by decide +kernel
theorem dX5_bitsOf_8 : decode cX5_bitsOf 8 = .ok (.fload_n 0, 1) := by decide +kernel
theorem dX5_bitsOf_9 : decode cX5_bitsOf 9 = .ok (.fstore_n 1, 1) := by decide +kernel
theorem dX5_bitsOf_10 : decode cX5_bitsOf 10 = .ok (.bipush 127, 2) := by decide +kernel
theorem dX5_bitsOf_12 : decode cX5_bitsOf 12 = .ok (.istore_n 2, 1) := by decide +kernel
theorem dX5_bitsOf_13 : decode cX5_bitsOf 13 = .ok (.iconst 0, 1) := by decide +kernel
theorem dX5_bitsOf_14 : decode cX5_bitsOf 14 = .ok (.istore_n 3, 1) := by decide +kernel
theorem dX5_bitsOf_15 : decode cX5_bitsOf 15 = .ok (.iload_n 3, 1) := by decide +kernel
theorem dX5_bitsOf_16 : decode cX5_bitsOf 16 = .ok (.bipush 127, 2) := by decide +kernel
theorem dX5_bitsOf_18 : decode cX5_bitsOf 18 = .ok (.if_icmp .ge 22, 3) := by decide +kernel
theorem dX5_bitsOf_21 : decode cX5_bitsOf 21 = .ok (.fload_n 1, 1) := by decide +kernel
theorem dX5_bitsOf_22 : decode cX5_bitsOf 22 = .ok (.fconst 2, 1) := by decide +kernel
theorem dX5_bitsOf_23 : decode cX5_bitsOf 23 = .ok (.fcmp .l, 1) := by decide +kernel
theorem dX5_bitsOf_24 : decode cX5_bitsOf 24 = .ok (.ifCond .lt 16, 3) := by decide +kernel
theorem dX5_bitsOf_27 : decode cX5_bitsOf 27 = .ok (.fload_n 1, 1) := by decide +kernel
theorem dX5_bitsOf_28 : decode cX5_bitsOf 28 = .ok (.fconst 2, 1) := by decide +kernel
theorem dX5_bitsOf_29 : decode cX5_bitsOf 29 = .ok (.fdiv, 1) := by decide +kernel
theorem dX5_bitsOf_30 : decode cX5_bitsOf 30 = .ok (.fstore_n 1, 1) := by decide +kernel
theorem dX5_bitsOf_31 : decode cX5_bitsOf 31 = .ok (.iinc 2 1, 3) := by decide +kernel
theorem dX5_bitsOf_34 : decode cX5_bitsOf 34 = .ok (.iinc 3 1, 3) := by decide +kernel
theorem dX5_bitsOf_37 : decode cX5_bitsOf 37 = .ok (.goto (-22), 3) := by decide +kernel
theorem dX5_bitsOf_40 : decode cX5_bitsOf 40 = .ok (.iconst 0, 1) := by decide +kernel
theorem dX5_bitsOf_41 : decode cX5_bitsOf 41 = .ok (.istore_n 3, 1) := by decide +kernel
theorem dX5_bitsOf_42 : decode cX5_bitsOf 42 = .ok (.iload_n 3, 1) := by decide +kernel
theorem dX5_bitsOf_43 : decode cX5_bitsOf 43 = .ok (.bipush 127, 2) := by decide +kernel
theorem dX5_bitsOf_45 : decode cX5_bitsOf 45 = .ok (.if_icmp .ge 22, 3) := by decide +kernel
theorem dX5_bitsOf_48 : decode cX5_bitsOf 48 = .ok (.fload_n 1, 1) := by decide +kernel
theorem dX5_bitsOf_49 : decode cX5_bitsOf 49 = .ok (.fconst 1, 1) := by decide +kernel
theorem dX5_bitsOf_50 : decode cX5_bitsOf 50 = .ok (.fcmp .g, 1) := by decide +kernel
theorem dX5_bitsOf_51 : decode cX5_bitsOf 51 = .ok (.ifCond .ge 16, 3) := by decide +kernel
theorem dX5_bitsOf_54 : decode cX5_bitsOf 54 = .ok (.fload_n 1, 1) := by decide +kernel
theorem dX5_bitsOf_55 : decode cX5_bitsOf 55 = .ok (.fconst 2, 1) := by decide +kernel
theorem dX5_bitsOf_56 : decode cX5_bitsOf 56 = .ok (.fmul, 1) := by decide +kernel
theorem dX5_bitsOf_57 : decode cX5_bitsOf 57 = .ok (.fstore_n 1, 1) := by decide +kernel
theorem dX5_bitsOf_58 : decode cX5_bitsOf 58 = .ok (.iinc 2 (-1), 3) := by decide +kernel
theorem dX5_bitsOf_61 : decode cX5_bitsOf 61 = .ok (.iinc 3 1, 3) := by decide +kernel
theorem dX5_bitsOf_64 : decode cX5_bitsOf 64 = .ok (.goto (-22), 3) := by decide +kernel
theorem dX5_bitsOf_67 : decode cX5_bitsOf 67 = .ok (.iload_n 2, 1) := by decide +kernel
theorem dX5_bitsOf_68 : decode cX5_bitsOf 68 = .ok (.bipush 23, 2) := by decide +kernel
theorem dX5_bitsOf_70 : decode cX5_bitsOf 70 = .ok (.ishl, 1) := by decide +kernel
theorem dX5_bitsOf_71 : decode cX5_bitsOf 71 = .ok (.fload_n 1, 1) := by decide +kernel
theorem dX5_bitsOf_72 : decode cX5_bitsOf 72 = .ok (.fconst 1, 1) := by decide +kernel
theorem dX5_bitsOf_73 : decode cX5_bitsOf 73 = .ok (.fsub, 1) := by decide +kernel
theorem dX5_bitsOf_74 : decode cX5_bitsOf 74 = .ok (.ldc 250, 2) := by decide +kernel
theorem dX5_bitsOf_76 : decode cX5_bitsOf 76 = .ok (.fmul, 1) := by decide +kernel
theorem dX5_bitsOf_77 : decode cX5_bitsOf 77 = .ok (.f2i, 1) := by decide +kernel
theorem dX5_bitsOf_78 : decode cX5_bitsOf 78 = .ok (.iadd, 1) := by decide +kernel
theorem dX5_bitsOf_79 : decode cX5_bitsOf 79 = .ok (.ireturn, 1) := by decide +kernel
theorem dJ6_bitCount_0f7a4_0 : decode cJ6_bitCount_0f7a4 0 = .ok (.iload_n 0, 1) := by decide +kernel
theorem dJ6_bitCount_0f7a4_1 : decode cJ6_bitCount_0f7a4 1 = .ok (.iload_n 0, 1) := by decide +kernel
theorem dJ6_bitCount_0f7a4_2 : decode cJ6_bitCount_0f7a4 2 = .ok (.iconst 1, 1) := by decide +kernel
theorem dJ6_bitCount_0f7a4_3 : decode cJ6_bitCount_0f7a4 3 = .ok (.iushr, 1) := by decide +kernel
theorem dJ6_bitCount_0f7a4_4 : decode cJ6_bitCount_0f7a4 4 = .ok (.ldc_w 265, 3) := by decide +kernel
theorem dJ6_bitCount_0f7a4_7 : decode cJ6_bitCount_0f7a4 7 = .ok (.iand, 1) := by decide +kernel
theorem dJ6_bitCount_0f7a4_8 : decode cJ6_bitCount_0f7a4 8 = .ok (.isub, 1) := by decide +kernel
theorem dJ6_bitCount_0f7a4_9 : decode cJ6_bitCount_0f7a4 9 = .ok (.istore_n 0, 1) := by decide +kernel
theorem dJ6_bitCount_0f7a4_10 : decode cJ6_bitCount_0f7a4 10 = .ok (.iload_n 0, 1) := by decide +kernel
theorem dJ6_bitCount_0f7a4_11 : decode cJ6_bitCount_0f7a4 11 = .ok (.ldc_w 266, 3) := by decide +kernel
theorem dJ6_bitCount_0f7a4_14 : decode cJ6_bitCount_0f7a4 14 = .ok (.iand, 1) := by decide +kernel
theorem dJ6_bitCount_0f7a4_15 : decode cJ6_bitCount_0f7a4 15 = .ok (.iload_n 0, 1) := by decide +kernel
theorem dJ6_bitCount_0f7a4_16 : decode cJ6_bitCount_0f7a4 16 = .ok (.iconst 2, 1) := by decide +kernel
theorem dJ6_bitCount_0f7a4_17 : decode cJ6_bitCount_0f7a4 17 = .ok (.iushr, 1) := by decide +kernel
theorem dJ6_bitCount_0f7a4_18 : decode cJ6_bitCount_0f7a4 18 = .ok (.ldc_w 266, 3) := by decide +kernel
theorem dJ6_bitCount_0f7a4_21 : decode cJ6_bitCount_0f7a4 21 = .ok (.iand, 1) := by decide +kernel
theorem dJ6_bitCount_0f7a4_22 : decode cJ6_bitCount_0f7a4 22 = .ok (.iadd, 1) := by decide +kernel
theorem dJ6_bitCount_0f7a4_23 : decode cJ6_bitCount_0f7a4 23 = .ok (.istore_n 0, 1) := by decide +kernel
theorem dJ6_bitCount_0f7a4_24 : decode cJ6_bitCount_0f7a4 24 = .ok (.iload_n 0, 1) := by decide +kernel
theorem dJ6_bitCount_0f7a4_25 : decode cJ6_bitCount_0f7a4 25 = .ok (.iload_n 0, 1) := by decide +kernel
theorem dJ6_bitCount_0f7a4_26 : decode cJ6_bitCount_0f7a4 26 = .ok (.iconst 4, 1) := by decide +kernel
theorem dJ6_bitCount_0f7a4_27 : decode cJ6_bitCount_0f7a4 27 = .ok (.iushr, 1) := by decide +kernel
theorem dJ6_bitCount_0f7a4_28 : decode cJ6_bitCount_0f7a4 28 = .ok (.iadd, 1) := by decide +kernel
theorem dJ6_bitCount_0f7a4_29 : decode cJ6_bitCount_0f7a4 29 = .ok (.ldc_w 267, 3) := by decide +kernel
theorem dJ6_bitCount_0f7a4_32 : decode cJ6_bitCount_0f7a4 32 = .ok (.iand, 1) := by decide +kernel
theorem dJ6_bitCount_0f7a4_33 : decode cJ6_bitCount_0f7a4 33 = .ok (.istore_n 0, 1) := by decide +kernel
theorem dJ6_bitCount_0f7a4_34 : decode cJ6_bitCount_0f7a4 34 = .ok (.iload_n 0, 1) := by decide +kernel
theorem dJ6_bitCount_0f7a4_35 : decode cJ6_bitCount_0f7a4 35 = .ok (.iload_n 0, 1) := by decide +kernel
theorem dJ6_bitCount_0f7a4_36 : decode cJ6_bitCount_0f7a4 36 = .ok (.bipush 8, 2) := by decide +kernel
theorem dJ6_bitCount_0f7a4_38 : decode cJ6_bitCount_0f7a4 38 = .ok (.iushr, 1) := by decide +kernel
theorem dJ6_bitCount_0f7a4_39 : decode cJ6_bitCount_0f7a4 39 = .ok (.iadd, 1) := by decide +kernel
theorem dJ6_bitCount_0f7a4_40 : decode cJ6_bitCount_0f7a4 40 = .ok (.istore_n 0, 1) := by decide +kernel
theorem dJ6_bitCount_0f7a4_41 : decode cJ6_bitCount_0f7a4 41 = .ok (.iload_n 0, 1) := by decide +kernel
theorem dJ6_bitCount_0f7a4_42 : decode cJ6_bitCount_0f7a4 42 = .ok (.iload_n 0, 1) := by decide +kernel
theorem dJ6_bitCount_0f7a4_43 : decode cJ6_bitCount_0f7a4 43 = .ok (.bipush 16, 2) := by decide +kernel
theorem dJ6_bitCount_0f7a4_45 : decode cJ6_bitCount_0f7a4 45 = .ok (.iushr, 1) := by decide +kernel
theorem dJ6_bitCount_0f7a4_46 : decode cJ6_bitCount_0f7a4 46 = .ok (.iadd, 1) := by decide +kernel
theorem dJ6_bitCount_0f7a4_47 : decode cJ6_bitCount_0f7a4 47 = .ok (.istore_n 0, 1) := by decide +kernel
theorem dJ6_bitCount_0f7a4_48 : decode cJ6_bitCount_0f7a4 48 = .ok (.iload_n 0, 1) := by decide +kernel
theorem dJ6_bitCount_0f7a4_49 : decode cJ6_bitCount_0f7a4 49 = .ok (.bipush 63, 2) := by decide +kernel
theorem dJ6_bitCount_0f7a4_51 : decode cJ6_bitCount_0f7a4 51 = .ok (.iand, 1) := by decide +kernel
theorem dJ6_bitCount_0f7a4_52 : decode cJ6_bitCount_0f7a4 52 = .ok (.ireturn, 1) := by decide +kernel
theorem dJ9_max_7cf53_0 : decode cJ9_max_7cf53 0 = .ok (.iload_n 0, 1) := by decide +kernel
theorem dJ9_max_7cf53_1 : decode cJ9_max_7cf53 1 = .ok (.iload_n 1, 1) := by decide +kernel
theorem dJ9_max_7cf53_2 : decode cJ9_max_7cf53 2 = .ok (.if_icmp .lt 7, 3) := by decide +kernel
theorem dJ9_max_7cf53_5 : decode cJ9_max_7cf53 5 = .ok (.iload_n 0, 1) := by decide +kernel
theorem dJ9_max_7cf53_6 : decode cJ9_max_7cf53 6 = .ok (.goto 4, 3) := by decide +kernel
theorem dJ9_max_7cf53_9 : decode cJ9_max_7cf53 9 = .ok (.iload_n 1, 1) := by decide +kernel
theorem dJ9_max_7cf53_10 : decode cJ9_max_7cf53 10 = .ok (.ireturn, 1) := by decide +kernel
theorem dJ9_min_7cf53_0 : decode cJ9_min_7cf53 0 = .ok (.iload_n 0, 1) := by decide +kernel
theorem dJ9_min_7cf53_1 : decode cJ9_min_7cf53 1 = .ok (.iload_n 1, 1) := by decide +kernel
theorem dJ9_min_7cf53_2 : decode cJ9_min_7cf53 2 = .ok (.if_icmp .gt 7, 3) := by decide +kernel
theorem dJ9_min_7cf53_5 : decode cJ9_min_7cf53 5 = .ok (.iload_n 0, 1) := by decide +kernel
theorem dJ9_min_7cf53_6 : decode cJ9_min_7cf53 6 = .ok (.goto 4, 3) := by decide +kernel
theorem dJ9_min_7cf53_9 : decode cJ9_min_7cf53 9 = .ok (.iload_n 1, 1) := by decide +kernel
theorem dJ9_min_7cf53_10 : decode cJ9_min_7cf53 10 = .ok (.ireturn, 1) := by decide +kernel
theorem dL_cell_0 : decode cL_cell 0 = .ok (.iload_n 1, 1) := by decide +kernel
theorem dL_cell_1 : decode cL_cell 1 = .ok (.aload_n 0, 1) := by decide +kernel
theorem dL_cell_2 : decode cL_cell 2 = .ok (.arraylength, 1) := by decide +kernel
theorem dL_cell_3 : decode cL_cell 3 = .ok (.if_icmp .ge 9, 3) := by decide +kernel
theorem dL_cell_6 : decode cL_cell 6 = .ok (.aload_n 0, 1) := by decide +kernel
theorem dL_cell_7 : decode cL_cell 7 = .ok (.iload_n 1, 1) := by decide +kernel
theorem dL_cell_8 : decode cL_cell 8 = .ok (.iaload, 1) := by decide +kernel
theorem dL_cell_9 : decode cL_cell 9 = .ok (.goto 15, 3) := by decide +kernel
theorem dL_cell_12 : decode cL_cell 12 = .ok (.sipush 7919, 3) := by decide +kernel
theorem dL_cell_15 : decode cL_cell 15 = .ok (.iload_n 1, 1) := by decide +kernel
theorem dL_cell_16 : decode cL_cell 16 = .ok (.iconst 3, 1) := by decide +kernel
theorem dL_cell_17 : decode cL_cell 17 = .ok (.iadd, 1) := by decide +kernel
theorem dL_cell_18 : decode cL_cell 18 = .ok (.imul, 1) := by decide +kernel
theorem dL_cell_19 : decode cL_cell 19 = .ok (.iload_n 1, 1) := by decide +kernel
theorem dL_cell_20 : decode cL_cell 20 = .ok (.bipush 11, 2) := by decide +kernel
theorem dL_cell_22 : decode cL_cell 22 = .ok (.iadd, 1) := by decide +kernel
theorem dL_cell_23 : decode cL_cell 23 = .ok (.imul, 1) := by decide +kernel
theorem dL_cell_24 : decode cL_cell 24 = .ok (.ireturn, 1) := by decide +kernel
theorem dL_low_0 : decode cL_low 0 = .ok (.iload_n 0, 1) := by decide +kernel
theorem dL_low_1 : decode cL_low 1 = .ok (.ldc 7, 2) := by decide +kernel
theorem dL_low_3 : decode cL_low 3 = .ok (.iand, 1) := by decide +kernel
theorem dL_low_4 : decode cL_low 4 = .ok (.iload_n 1, 1) := by decide +kernel
theorem dL_low_5 : decode cL_low 5 = .ok (.irem, 1) := by decide +kernel
theorem dL_low_6 : decode cL_low 6 = .ok (.ireturn, 1) := by decide +kernel
set_option maxRecDepth 20000 in
theorem ggL_told_X5_count : GoodIn wsL_told wsX5_count := goodIn_r _ [7, 8, 9, 10, 11, 12, 13, 14, 15, 16, 17, 18, 19, 20, 21, 22, 23, 24, 25, 26, 27, 28, 29, 30, 31, 32, 33, 34, 35, 36, 37, 38, 39, 40, 41, 42, 43, 44, 45, 46, 47, 48, 49, 50, 51, 52, 183, 184, 185, 186, 187, 188, 189, 190, 191, 192, 193, 194, 195, 196, 197, 198, 199, 200, 201, 202, 203, 204, 205, 206, 207, 208, 209, 210, 211] (by decide +kernel) (by decide +kernel)
set_option maxRecDepth 20000 in
theorem gL_told_X5_count : GoodIn wsL_told (wsV RL 12 RX5 yX5_count wsX5_count) := goodIn_app (goodIn_of _ (by decide +kernel)) ggL_told_X5_count
set_option maxRecDepth 20000 in
theorem ggL_told_X5_camper : GoodIn wsL_told wsX5_camper := goodIn_r _ [56, 8, 57, 58, 59, 14, 60, 16, 17, 18, 19, 20, 21, 22, 23, 61, 62, 49, 50, 27, 51, 29, 52, 35, 63, 64, 65, 66, 30, 67, 6, 68, 69, 70, 71, 72, 73, 74, 75, 76, 77, 78, 79, 47, 80, 81, 82, 83, 84, 85, 86, 87, 88, 89, 90, 91, 92, 93, 94, 95, 96, 97, 98, 99, 100, 101, 102, 103, 104, 105, 106, 107, 108, 109, 110, 111, 112, 113, 114, 115, 116, 117, 118, 119, 120, 121, 122, 123, 124, 125, 126, 127, 128, 129, 130, 131, 132, 133, 134, 135, 136, 137, 138, 139, 140, 141, 142, 143, 144, 145, 146, 183, 184, 185, 186, 187, 188, 189, 190, 191, 192, 193, 194, 195, 196, 197, 198, 199, 200, 211, 201, 202, 203, 204, 205] (by decide +kernel) (by decide +kernel)
set_option maxRecDepth 20000 in
theorem gL_told_X5_camper : GoodIn wsL_told (wsV RL 18 RX5 yX5_camper wsX5_camper) := goodIn_app (goodIn_of _ (by decide +kernel)) ggL_told_X5_camper
set_option maxRecDepth 20000 in
theorem ggL_told_X5_plotOf : GoodIn wsL_told wsX5_plotOf := goodIn_r _ [150, 8, 57, 58, 59, 14, 60, 16, 17, 18, 19, 20, 21, 22, 23, 151, 152, 153, 27, 154, 29, 52, 35, 155, 156, 157, 158, 159, 160, 161, 162, 94, 95, 163, 109, 110, 111, 164, 117, 118, 119, 165, 166, 167, 168, 30, 183, 184, 185, 186, 187, 188, 189, 190, 191, 192, 193, 194, 195, 196, 197, 198, 199, 200, 211, 201, 202, 203, 204, 205] (by decide +kernel) (by decide +kernel)
set_option maxRecDepth 20000 in
theorem gL_told_X5_plotOf : GoodIn wsL_told (wsV RL 22 RX5 yX5_plotOf wsX5_plotOf) := goodIn_app (goodIn_of _ (by decide +kernel)) ggL_told_X5_plotOf
set_option maxRecDepth 20000 in
theorem ggL_told_X5_song : GoodIn wsL_told wsX5_song := goodIn_r _ [172, 8, 173, 174, 175, 14, 176, 75, 61, 19, 20, 21, 22, 23, 177, 138, 139, 140, 141, 142, 18, 143, 144, 6, 145, 146, 178, 179, 180, 181, 182, 77, 78, 79, 47, 80, 81, 82, 83, 84, 27, 85, 52, 86, 87, 88, 89, 29, 90, 91, 92, 93, 94, 95, 30, 35, 67, 68, 69, 70, 183, 184, 185, 186, 187, 188, 189, 190, 191, 192, 193, 194, 195, 196, 197, 198, 199, 200, 211, 201, 202, 203, 204, 205] (by decide +kernel) (by decide +kernel)
set_option maxRecDepth 20000 in
theorem gL_told_X5_song : GoodIn wsL_told (wsV RL 26 RX5 yX5_song wsX5_song) := goodIn_app (goodIn_of _ (by decide +kernel)) ggL_told_X5_song
theorem dL_told_0 : decode cL_told 0 = .ok (.ldc2_w 8, 3) := by decide +kernel
theorem dL_told_3 : decode cL_told 3 = .ok (.lstore_n 1, 1) := by decide +kernel
theorem dL_told_4 : decode cL_told 4 = .ok (.iconst 0, 1) := by decide +kernel
theorem dL_told_5 : decode cL_told 5 = .ok (.istore_n 3, 1) := by decide +kernel
theorem dL_told_6 : decode cL_told 6 = .ok (.iload_n 3, 1) := by decide +kernel
theorem dL_told_7 : decode cL_told 7 = .ok (.bipush 10, 2) := by decide +kernel
theorem dL_told_9 : decode cL_told 9 = .ok (.if_icmp .ge 22, 3) := by decide +kernel
theorem dL_told_12 : decode cL_told 12 = .ok (.ldc2_w 10, 3) := by decide +kernel
theorem dL_told_15 : decode cL_told 15 = .ok (.lload_n 1, 1) := by decide +kernel
theorem dL_told_16 : decode cL_told 16 = .ok (.lmul, 1) := by decide +kernel
theorem dL_told_17 : decode cL_told 17 = .ok (.aload_n 0, 1) := by decide +kernel
theorem dL_told_18 : decode cL_told 18 = .ok (.iload_n 3, 1) := by decide +kernel
theorem dL_told_19 : decode cL_told 19 = .ok (.invokevirtual 12, 3) := by decide +kernel
theorem dL_told_22 : decode cL_told 22 = .ok (.i2l, 1) := by decide +kernel
theorem dL_told_23 : decode cL_told 23 = .ok (.ladd, 1) := by decide +kernel
theorem dL_told_24 : decode cL_told 24 = .ok (.lstore_n 1, 1) := by decide +kernel
theorem dL_told_25 : decode cL_told 25 = .ok (.iinc 3 1, 3) := by decide +kernel
theorem dL_told_28 : decode cL_told 28 = .ok (.goto (-22), 3) := by decide +kernel
theorem dL_told_31 : decode cL_told 31 = .ok (.iconst 0, 1) := by decide +kernel
theorem dL_told_32 : decode cL_told 32 = .ok (.istore_n 3, 1) := by decide +kernel
theorem dL_told_33 : decode cL_told 33 = .ok (.iload_n 3, 1) := by decide +kernel
theorem dL_told_34 : decode cL_told 34 = .ok (.aload_n 0, 1) := by decide +kernel
theorem dL_told_35 : decode cL_told 35 = .ok (.iconst 1, 1) := by decide +kernel
theorem dL_told_36 : decode cL_told 36 = .ok (.invokevirtual 12, 3) := by decide +kernel
theorem dL_told_39 : decode cL_told 39 = .ok (.if_icmp .ge 104, 3) := by decide +kernel
theorem dL_told_42 : decode cL_told 42 = .ok (.iconst 0, 1) := by decide +kernel
theorem dL_told_43 : decode cL_told 43 = .ok (.istore 4, 2) := by decide +kernel
theorem dL_told_45 : decode cL_told 45 = .ok (.iload 4, 2) := by decide +kernel
theorem dL_told_47 : decode cL_told 47 = .ok (.bipush 7, 2) := by decide +kernel
theorem dL_told_49 : decode cL_told 49 = .ok (.if_icmp .ge 24, 3) := by decide +kernel
theorem dL_told_52 : decode cL_told 52 = .ok (.ldc2_w 10, 3) := by decide +kernel
theorem dL_told_55 : decode cL_told 55 = .ok (.lload_n 1, 1) := by decide +kernel
theorem dL_told_56 : decode cL_told 56 = .ok (.lmul, 1) := by decide +kernel
theorem dL_told_57 : decode cL_told 57 = .ok (.aload_n 0, 1) := by decide +kernel
theorem dL_told_58 : decode cL_told 58 = .ok (.iload_n 3, 1) := by decide +kernel
theorem dL_told_59 : decode cL_told 59 = .ok (.iload 4, 2) := by decide +kernel
theorem dL_told_61 : decode cL_told 61 = .ok (.invokevirtual 18, 3) := by decide +kernel
theorem dL_told_64 : decode cL_told 64 = .ok (.i2l, 1) := by decide +kernel
theorem dL_told_65 : decode cL_told 65 = .ok (.ladd, 1) := by decide +kernel
theorem dL_told_66 : decode cL_told 66 = .ok (.lstore_n 1, 1) := by decide +kernel
theorem dL_told_67 : decode cL_told 67 = .ok (.iinc 4 1, 3) := by decide +kernel
theorem dL_told_70 : decode cL_told 70 = .ok (.goto (-25), 3) := by decide +kernel
theorem dL_told_73 : decode cL_told 73 = .ok (.iconst 0, 1) := by decide +kernel
theorem dL_told_74 : decode cL_told 74 = .ok (.istore 4, 2) := by decide +kernel
theorem dL_told_76 : decode cL_told 76 = .ok (.iload 4, 2) := by decide +kernel
theorem dL_told_78 : decode cL_told 78 = .ok (.aload_n 0, 1) := by decide +kernel
theorem dL_told_79 : decode cL_told 79 = .ok (.iload_n 3, 1) := by decide +kernel
theorem dL_told_80 : decode cL_told 80 = .ok (.iconst 2, 1) := by decide +kernel
theorem dL_told_81 : decode cL_told 81 = .ok (.invokevirtual 18, 3) := by decide +kernel
theorem dL_told_84 : decode cL_told 84 = .ok (.if_icmp .ge 53, 3) := by decide +kernel
theorem dL_told_87 : decode cL_told 87 = .ok (.ldc2_w 10, 3) := by decide +kernel
theorem dL_told_90 : decode cL_told 90 = .ok (.ldc2_w 10, 3) := by decide +kernel
theorem dL_told_93 : decode cL_told 93 = .ok (.ldc2_w 10, 3) := by decide +kernel
theorem dL_told_96 : decode cL_told 96 = .ok (.lload_n 1, 1) := by decide +kernel
theorem dL_told_97 : decode cL_told 97 = .ok (.lmul, 1) := by decide +kernel
theorem dL_told_98 : decode cL_told 98 = .ok (.aload_n 0, 1) := by decide +kernel
theorem dL_told_99 : decode cL_told 99 = .ok (.iload_n 3, 1) := by decide +kernel
theorem dL_told_100 : decode cL_told 100 = .ok (.iload 4, 2) := by decide +kernel
theorem dL_told_102 : decode cL_told 102 = .ok (.iconst 0, 1) := by decide +kernel
theorem dL_told_103 : decode cL_told 103 = .ok (.invokevirtual 22, 3) := by decide +kernel
theorem dL_told_106 : decode cL_told 106 = .ok (.i2l, 1) := by decide +kernel
theorem dL_told_107 : decode cL_told 107 = .ok (.ladd, 1) := by decide +kernel
theorem dL_told_108 : decode cL_told 108 = .ok (.lmul, 1) := by decide +kernel
theorem dL_told_109 : decode cL_told 109 = .ok (.aload_n 0, 1) := by decide +kernel
theorem dL_told_110 : decode cL_told 110 = .ok (.iload_n 3, 1) := by decide +kernel
theorem dL_told_111 : decode cL_told 111 = .ok (.iload 4, 2) := by decide +kernel
theorem dL_told_113 : decode cL_told 113 = .ok (.iconst 1, 1) := by decide +kernel
theorem dL_told_114 : decode cL_told 114 = .ok (.invokevirtual 22, 3) := by decide +kernel
theorem dL_told_117 : decode cL_told 117 = .ok (.i2l, 1) := by decide +kernel
theorem dL_told_118 : decode cL_told 118 = .ok (.ladd, 1) := by decide +kernel
theorem dL_told_119 : decode cL_told 119 = .ok (.lmul, 1) := by decide +kernel
theorem dL_told_120 : decode cL_told 120 = .ok (.aload_n 0, 1) := by decide +kernel
theorem dL_told_121 : decode cL_told 121 = .ok (.iload_n 3, 1) := by decide +kernel
theorem dL_told_122 : decode cL_told 122 = .ok (.iload 4, 2) := by decide +kernel
theorem dL_told_124 : decode cL_told 124 = .ok (.iconst 2, 1) := by decide +kernel
theorem dL_told_125 : decode cL_told 125 = .ok (.invokevirtual 22, 3) := by decide +kernel
theorem dL_told_128 : decode cL_told 128 = .ok (.i2l, 1) := by decide +kernel
theorem dL_told_129 : decode cL_told 129 = .ok (.ladd, 1) := by decide +kernel
theorem dL_told_130 : decode cL_told 130 = .ok (.lstore_n 1, 1) := by decide +kernel
theorem dL_told_131 : decode cL_told 131 = .ok (.iinc 4 1, 3) := by decide +kernel
theorem dL_told_134 : decode cL_told 134 = .ok (.goto (-58), 3) := by decide +kernel
theorem dL_told_137 : decode cL_told 137 = .ok (.iinc 3 1, 3) := by decide +kernel
theorem dL_told_140 : decode cL_told 140 = .ok (.goto (-107), 3) := by decide +kernel
theorem dL_told_143 : decode cL_told 143 = .ok (.iconst 0, 1) := by decide +kernel
theorem dL_told_144 : decode cL_told 144 = .ok (.istore_n 3, 1) := by decide +kernel
theorem dL_told_145 : decode cL_told 145 = .ok (.iload_n 3, 1) := by decide +kernel
theorem dL_told_146 : decode cL_told 146 = .ok (.aload_n 0, 1) := by decide +kernel
theorem dL_told_147 : decode cL_told 147 = .ok (.iconst 3, 1) := by decide +kernel
theorem dL_told_148 : decode cL_told 148 = .ok (.invokevirtual 12, 3) := by decide +kernel
theorem dL_told_151 : decode cL_told 151 = .ok (.if_icmp .ge 39, 3) := by decide +kernel
theorem dL_told_154 : decode cL_told 154 = .ok (.iconst 0, 1) := by decide +kernel
theorem dL_told_155 : decode cL_told 155 = .ok (.istore 4, 2) := by decide +kernel
theorem dL_told_157 : decode cL_told 157 = .ok (.iload 4, 2) := by decide +kernel
theorem dL_told_159 : decode cL_told 159 = .ok (.iconst 4, 1) := by decide +kernel
theorem dL_told_160 : decode cL_told 160 = .ok (.if_icmp .ge 24, 3) := by decide +kernel
theorem dL_told_163 : decode cL_told 163 = .ok (.ldc2_w 10, 3) := by decide +kernel
theorem dL_told_166 : decode cL_told 166 = .ok (.lload_n 1, 1) := by decide +kernel
theorem dL_told_167 : decode cL_told 167 = .ok (.lmul, 1) := by decide +kernel
theorem dL_told_168 : decode cL_told 168 = .ok (.aload_n 0, 1) := by decide +kernel
theorem dL_told_169 : decode cL_told 169 = .ok (.iload_n 3, 1) := by decide +kernel
theorem dL_told_170 : decode cL_told 170 = .ok (.iload 4, 2) := by decide +kernel
theorem dL_told_172 : decode cL_told 172 = .ok (.invokevirtual 26, 3) := by decide +kernel
theorem dL_told_175 : decode cL_told 175 = .ok (.i2l, 1) := by decide +kernel
theorem dL_told_176 : decode cL_told 176 = .ok (.ladd, 1) := by decide +kernel
theorem dL_told_177 : decode cL_told 177 = .ok (.lstore_n 1, 1) := by decide +kernel
theorem dL_told_178 : decode cL_told 178 = .ok (.iinc 4 1, 3) := by decide +kernel
theorem dL_told_181 : decode cL_told 181 = .ok (.goto (-24), 3) := by decide +kernel
theorem dL_told_184 : decode cL_told 184 = .ok (.iinc 3 1, 3) := by decide +kernel
theorem dL_told_187 : decode cL_told 187 = .ok (.goto (-42), 3) := by decide +kernel
theorem dL_told_190 : decode cL_told 190 = .ok (.lload_n 1, 1) := by decide +kernel
theorem dL_told_191 : decode cL_told 191 = .ok (.lreturn, 1) := by decide +kernel
set_option maxRecDepth 20000 in
theorem ggL_act_L_low : GoodIn wsL_act wsL_low := goodIn_r _ [4, 5] (by decide +kernel) (by decide +kernel)
set_option maxRecDepth 20000 in
theorem gL_act_L_low : GoodIn wsL_act (va_wsS RL 29 yL_low wsL_low) := goodIn_app (goodIn_of _ (by decide +kernel)) ggL_act_L_low
set_option maxRecDepth 20000 in
theorem ggL_act_X5_count : GoodIn wsL_act wsX5_count := goodIn_r _ [10, 11, 12, 13, 14, 15, 16, 17, 18, 19, 20, 21, 22, 23, 24, 25, 26, 27, 28, 29, 30, 31, 32, 33, 34, 35, 36, 37, 38, 39, 40, 41, 42, 43, 44, 45, 46, 47, 48, 49, 50, 51, 52, 53, 54, 55, 357, 358, 359, 360, 361, 362, 363, 364, 365, 366, 367, 368, 369, 370, 371, 372, 373, 374, 375, 376, 377, 378, 379, 380, 381, 382, 383, 384, 385] (by decide +kernel) (by decide +kernel)
set_option maxRecDepth 20000 in
theorem gL_act_X5_count : GoodIn wsL_act (wsV RL 12 RX5 yX5_count wsX5_count) := goodIn_app (goodIn_of _ (by decide +kernel)) ggL_act_X5_count
set_option maxRecDepth 20000 in
theorem ggL_act_X5_come : GoodIn wsL_act wsX5_come := goodIn_r _ [59, 11, 12, 60, 61, 9, 62, 63, 64, 65, 17, 66, 19, 50, 67, 68, 69, 70, 71, 30, 72, 32, 73, 74, 75, 76, 77, 78, 33, 38, 22, 23, 24, 25, 26, 79, 80, 81, 82, 83, 84, 85, 86, 55, 87, 88, 89, 90, 91, 92, 93, 94, 95, 96, 97, 98, 20, 21, 99, 100, 101, 102, 103, 104, 105, 106, 107, 108, 109, 110, 111, 112, 113, 114, 115, 116, 44, 36, 45, 117, 118, 119, 120, 121, 122, 123, 124, 125, 126, 127, 128, 129, 130, 131, 132, 133, 134, 135, 136, 137, 138, 139, 140, 141, 142, 143, 144, 145, 146, 147, 148, 149, 150, 151, 152, 153, 154, 155, 156, 157, 158, 159, 160, 161, 162, 163, 164, 165, 166, 167, 168, 169, 170, 357, 358, 359, 360, 361, 362, 363, 364, 365, 366, 367, 368, 369, 370, 371, 372, 373, 374, 375, 376, 377, 378, 379, 385, 380, 381, 382] (by decide +kernel) (by decide +kernel)
set_option maxRecDepth 20000 in
theorem gL_act_X5_come : GoodIn wsL_act (wsV RL 34 RX5 yX5_come wsX5_come) := goodIn_app (goodIn_of _ (by decide +kernel)) ggL_act_X5_come
set_option maxRecDepth 20000 in
theorem ggL_act_X5_leave : GoodIn wsL_act wsX5_leave := goodIn_r _ [174, 11, 12, 175, 96, 97, 17, 98, 19, 20, 21, 22, 23, 24, 25, 26, 109, 110, 111, 112, 113, 114, 115, 116, 44, 36, 45, 117, 118, 119, 120, 121, 122, 123, 124, 125, 126, 127, 128, 129, 50, 67, 68, 130, 131, 132, 133, 134, 135, 30, 136, 32, 77, 78, 33, 55, 137, 138, 139, 140, 141, 176, 177, 178, 179, 166, 163, 164, 165, 180, 15, 16, 18, 181, 182, 183, 184, 158, 159, 160, 161, 103, 9, 104, 105, 79, 80, 162, 106, 107, 108, 81, 82, 185, 186, 187, 188, 38, 189, 190, 191, 192, 193, 194, 195, 196, 197, 198, 199, 200, 201, 202, 203, 204, 150, 151, 152, 153, 205, 70, 71, 72, 73, 74, 75, 76, 206, 207, 208, 209, 210, 211, 212, 213, 214, 215, 216, 217, 218, 219, 220, 221, 222, 223, 224, 225, 226, 227, 228, 229, 230, 231, 232, 233, 234, 235, 95, 236, 237, 238, 239, 240, 241, 242, 243, 244, 245, 246, 83, 84, 85, 86, 247, 248, 249, 250, 251, 252, 253, 254, 14, 357, 358, 359, 360, 361, 362, 363, 364, 365, 366, 367, 368, 369, 370, 371, 372, 373, 374, 385, 380, 381, 382, 375, 376, 377, 378, 379] (by decide +kernel) (by decide +kernel)
set_option maxRecDepth 20000 in
theorem gL_act_X5_leave : GoodIn wsL_act (wsV RL 37 RX5 yX5_leave wsX5_leave) := goodIn_app (goodIn_of _ (by decide +kernel)) ggL_act_X5_leave
set_option maxRecDepth 20000 in
theorem ggL_act_X5_moveTent : GoodIn wsL_act wsX5_moveTent := goodIn_r _ [258, 11, 12, 175, 96, 97, 17, 98, 19, 20, 21, 22, 23, 24, 25, 26, 60, 61, 9, 62, 259, 70, 71, 30, 72, 32, 73, 74, 75, 76, 77, 78, 33, 38, 79, 80, 81, 82, 260, 84, 85, 86, 55, 261, 109, 110, 111, 112, 113, 114, 115, 116, 44, 36, 45, 117, 118, 119, 120, 121, 122, 123, 124, 125, 126, 127, 128, 129, 50, 67, 68, 130, 131, 132, 133, 134, 135, 136, 137, 138, 139, 140, 141, 262, 168, 169, 170, 166, 163, 164, 165, 263, 88, 89, 90, 357, 358, 359, 360, 361, 362, 363, 364, 365, 366, 367, 368, 369, 370, 371, 372, 373, 374, 385, 375, 376, 377, 378, 379, 380, 381, 382] (by decide +kernel) (by decide +kernel)
set_option maxRecDepth 20000 in
theorem gL_act_X5_moveTent : GoodIn wsL_act (wsV RL 40 RX5 yX5_moveTent wsX5_moveTent) := goodIn_app (goodIn_of _ (by decide +kernel)) ggL_act_X5_moveTent
set_option maxRecDepth 20000 in
theorem ggL_act_X5_handOver : GoodIn wsL_act wsX5_handOver := goodIn_r _ [267, 11, 12, 60, 61, 9, 62, 175, 96, 97, 17, 98, 19, 20, 21, 22, 23, 24, 25, 26, 259, 70, 71, 30, 72, 32, 73, 74, 75, 76, 77, 78, 33, 38, 79, 80, 81, 82, 260, 84, 85, 86, 55, 268, 92, 93, 94, 50, 67, 68, 95, 99, 269, 207, 208, 209, 210, 211, 212, 213, 214, 215, 216, 217, 218, 219, 220, 221, 222, 223, 224, 225, 226, 227, 228, 229, 230, 231, 270, 236, 237, 238, 109, 110, 111, 112, 113, 114, 115, 116, 44, 36, 45, 117, 118, 119, 120, 121, 122, 123, 124, 125, 126, 127, 128, 129, 130, 131, 132, 133, 134, 135, 136, 137, 138, 139, 140, 141, 271, 272, 273, 274, 243, 244, 245, 246, 162, 163, 164, 165, 201, 202, 203, 204, 150, 151, 105, 152, 153, 108, 205, 83, 247, 248, 249, 250, 158, 159, 160, 161, 103, 104, 106, 107, 251, 252, 253, 254, 357, 358, 359, 360, 361, 362, 363, 364, 365, 366, 367, 368, 369, 370, 371, 372, 373, 374, 385, 375, 376, 377, 378, 379, 380, 381, 382] (by decide +kernel) (by decide +kernel)
set_option maxRecDepth 20000 in
theorem gL_act_X5_handOver : GoodIn wsL_act (wsV RL 43 RX5 yX5_handOver wsX5_handOver) := goodIn_app (goodIn_of _ (by decide +kernel)) ggL_act_X5_handOver
set_option maxRecDepth 20000 in
theorem ggL_act_X5_lay : GoodIn wsL_act wsX5_lay := goodIn_r _ [278, 11, 12, 60, 61, 9, 62, 109, 110, 111, 112, 113, 114, 115, 116, 44, 36, 45, 117, 118, 119, 120, 121, 122, 123, 124, 17, 125, 19, 126, 127, 128, 129, 50, 67, 68, 20, 130, 131, 132, 133, 134, 135, 30, 136, 32, 77, 78, 33, 55, 137, 138, 139, 24, 140, 26, 141, 279, 280, 281, 282, 166, 163, 164, 165, 283, 284, 285, 286, 357, 358, 359, 360, 361, 362, 363, 364, 365, 366, 367, 368, 369, 370, 371, 372, 373, 374, 380, 381, 382, 375, 376, 377, 378, 379, 385] (by decide +kernel) (by decide +kernel)
set_option maxRecDepth 20000 in
theorem gL_act_X5_lay : GoodIn wsL_act (wsV RL 46 RX5 yX5_lay wsX5_lay) := goodIn_app (goodIn_of _ (by decide +kernel)) ggL_act_X5_lay
set_option maxRecDepth 20000 in
theorem ggL_act_X5_carry : GoodIn wsL_act wsX5_carry := goodIn_r _ [290, 11, 12, 291, 292, 293, 17, 294, 126, 60, 61, 9, 62, 261, 22, 23, 24, 25, 26, 109, 110, 111, 112, 113, 114, 115, 116, 44, 36, 45, 117, 118, 119, 120, 121, 122, 123, 124, 125, 19, 127, 128, 129, 50, 67, 68, 20, 130, 131, 132, 133, 134, 135, 30, 136, 32, 77, 78, 33, 55, 137, 138, 139, 140, 141, 295, 284, 285, 286, 166, 163, 164, 165, 296, 297, 298, 299, 300, 301, 302, 303, 21, 304, 305, 306, 307, 205, 70, 71, 72, 73, 74, 75, 76, 38, 79, 80, 81, 82, 357, 358, 359, 360, 361, 362, 363, 364, 365, 366, 367, 368, 369, 370, 371, 372, 373, 374, 385, 380, 381, 382, 375, 376, 377, 378, 379] (by decide +kernel) (by decide +kernel)
set_option maxRecDepth 20000 in
theorem gL_act_X5_carry : GoodIn wsL_act (wsV RL 49 RX5 yX5_carry wsX5_carry) := goodIn_app (goodIn_of _ (by decide +kernel)) ggL_act_X5_carry
set_option maxRecDepth 20000 in
theorem ggL_act_X5_restore : GoodIn wsL_act wsX5_restore := goodIn_r _ [311, 312, 12, 11, 313, 109, 110, 111, 112, 113, 114, 115, 116, 44, 36, 45, 117, 118, 119, 120, 121, 122, 123, 124, 17, 125, 19, 126, 127, 128, 129, 50, 67, 68, 20, 130, 131, 132, 133, 134, 135, 30, 136, 32, 77, 78, 33, 55, 137, 138, 139, 24, 140, 26, 141, 314, 14, 15, 16, 18, 21, 22, 23, 25, 357, 358, 359, 360, 361, 362, 380, 381, 382, 363, 364, 365, 366, 367, 368, 369, 370, 371, 372, 373, 374, 375, 376, 377, 378, 379, 385] (by decide +kernel) (by decide +kernel)
set_option maxRecDepth 20000 in
theorem gL_act_X5_restore : GoodIn wsL_act (wsV RL 52 RX5 yX5_restore wsX5_restore) := goodIn_app (goodIn_of _ (by decide +kernel)) ggL_act_X5_restore
set_option maxRecDepth 20000 in
theorem ggL_act_X5_clearText : GoodIn wsL_act wsX5_clearText := goodIn_r _ [318, 13, 357, 358, 359, 360, 361, 362, 383, 384] (by decide +kernel) (by decide +kernel)
set_option maxRecDepth 20000 in
theorem gL_act_X5_clearText : GoodIn wsL_act (wsV RL 56 RX5 yX5_clearText wsX5_clearText) := goodIn_app (goodIn_of _ (by decide +kernel)) ggL_act_X5_clearText
set_option maxRecDepth 20000 in
theorem ggL_act_X5_type : GoodIn wsL_act wsX5_type := goodIn_r _ [322, 13, 323, 324, 325, 326, 327, 328, 329, 357, 358, 359, 360, 361, 362, 383, 384] (by decide +kernel) (by decide +kernel)
set_option maxRecDepth 20000 in
theorem gL_act_X5_type : GoodIn wsL_act (wsV RL 59 RX5 yX5_type wsX5_type) := goodIn_app (goodIn_of _ (by decide +kernel)) ggL_act_X5_type
set_option maxRecDepth 20000 in
theorem ggL_act_X5_comeAll : GoodIn wsL_act wsX5_comeAll := goodIn_r _ [333, 13, 334, 11, 12, 335, 336, 337, 326, 338, 328, 339, 340, 341, 342, 329, 343, 344, 345, 346, 347, 348, 314, 123, 124, 17, 125, 19, 126, 127, 128, 129, 50, 67, 68, 20, 130, 131, 132, 133, 134, 135, 30, 136, 32, 77, 78, 33, 55, 137, 138, 139, 24, 140, 26, 141, 349, 350, 351, 352, 353, 354, 355, 356, 63, 64, 65, 66, 69, 70, 71, 72, 73, 74, 75, 76, 38, 22, 23, 25, 79, 9, 80, 81, 82, 83, 84, 85, 86, 87, 88, 89, 90, 91, 92, 93, 94, 95, 96, 97, 98, 21, 99, 100, 101, 102, 103, 104, 105, 106, 107, 108, 142, 143, 144, 145, 146, 147, 148, 149, 150, 151, 152, 153, 154, 155, 156, 157, 158, 159, 160, 161, 162, 163, 164, 165, 166, 167, 168, 169, 170, 109, 110, 111, 112, 113, 114, 115, 116, 44, 36, 45, 117, 118, 119, 120, 121, 122, 357, 358, 359, 360, 361, 362, 383, 384, 363, 364, 365, 366, 367, 368, 369, 370, 371, 372, 373, 374, 375, 376, 377, 378, 379, 385, 380, 381, 382] (by decide +kernel) (by decide +kernel)
set_option maxRecDepth 20000 in
theorem gL_act_X5_comeAll : GoodIn wsL_act (wsV RL 63 RX5 yX5_comeAll wsX5_comeAll) := goodIn_app (goodIn_of _ (by decide +kernel)) ggL_act_X5_comeAll
theorem dL_act_0 : decode cL_act 0 = .ok (.iload_n 2, 1) := by decide +kernel
theorem dL_act_1 : decode cL_act 1 = .ok (.iload_n 2, 1) := by decide +kernel
theorem dL_act_2 : decode cL_act 2 = .ok (.bipush 20, 2) := by decide +kernel
theorem dL_act_4 : decode cL_act 4 = .ok (.ishr, 1) := by decide +kernel
theorem dL_act_5 : decode cL_act 5 = .ok (.iconst 1, 1) := by decide +kernel
theorem dL_act_6 : decode cL_act 6 = .ok (.iand, 1) := by decide +kernel
theorem dL_act_7 : decode cL_act 7 = .ok (.ifCond .ne 8, 3) := by decide +kernel
theorem dL_act_10 : decode cL_act 10 = .ok (.bipush 64, 2) := by decide +kernel
theorem dL_act_12 : decode cL_act 12 = .ok (.goto 5, 3) := by decide +kernel
theorem dL_act_15 : decode cL_act 15 = .ok (.bipush 9, 2) := by decide +kernel
theorem dL_act_17 : decode cL_act 17 = .ok (.invokestatic 29, 3) := by decide +kernel
theorem dL_act_20 : decode cL_act 20 = .ok (.istore_n 3, 1) := by decide +kernel
theorem dL_act_21 : decode cL_act 21 = .ok (.iload_n 2, 1) := by decide +kernel
theorem dL_act_22 : decode cL_act 22 = .ok (.bipush 6, 2) := by decide +kernel
theorem dL_act_24 : decode cL_act 24 = .ok (.ishr, 1) := by decide +kernel
theorem dL_act_25 : decode cL_act 25 = .ok (.iload_n 2, 1) := by decide +kernel
theorem dL_act_26 : decode cL_act 26 = .ok (.bipush 20, 2) := by decide +kernel
theorem dL_act_28 : decode cL_act 28 = .ok (.ishr, 1) := by decide +kernel
theorem dL_act_29 : decode cL_act 29 = .ok (.iconst 1, 1) := by decide +kernel
theorem dL_act_30 : decode cL_act 30 = .ok (.iand, 1) := by decide +kernel
theorem dL_act_31 : decode cL_act 31 = .ok (.ifCond .ne 8, 3) := by decide +kernel
theorem dL_act_34 : decode cL_act 34 = .ok (.bipush 64, 2) := by decide +kernel
theorem dL_act_36 : decode cL_act 36 = .ok (.goto 5, 3) := by decide +kernel
theorem dL_act_39 : decode cL_act 39 = .ok (.bipush 9, 2) := by decide +kernel
theorem dL_act_41 : decode cL_act 41 = .ok (.invokestatic 29, 3) := by decide +kernel
theorem dL_act_44 : decode cL_act 44 = .ok (.istore 4, 2) := by decide +kernel
theorem dL_act_46 : decode cL_act 46 = .ok (.iload_n 1, 1) := by decide +kernel
theorem dL_act_47 : decode cL_act 47 = .ok (.iconst 4, 1) := by decide +kernel
theorem dL_act_48 : decode cL_act 48 = .ok (.ishr, 1) := by decide +kernel
theorem dL_act_49 : decode cL_act 49 = .ok (.aload_n 0, 1) := by decide +kernel
theorem dL_act_50 : decode cL_act 50 = .ok (.iconst 1, 1) := by decide +kernel
theorem dL_act_51 : decode cL_act 51 = .ok (.invokevirtual 12, 3) := by decide +kernel
theorem dL_act_54 : decode cL_act 54 = .ok (.iconst 1, 1) := by decide +kernel
theorem dL_act_55 : decode cL_act 55 = .ok (.iadd, 1) := by decide +kernel
theorem dL_act_56 : decode cL_act 56 = .ok (.invokestatic 29, 3) := by decide +kernel
theorem dL_act_59 : decode cL_act 59 = .ok (.istore 5, 2) := by decide +kernel
theorem dL_act_61 : decode cL_act 61 = .ok (.iload_n 1, 1) := by decide +kernel
theorem dL_act_62 : decode cL_act 62 = .ok (.bipush 15, 2) := by decide +kernel
theorem dL_act_64 : decode cL_act 64 = .ok (.iand, 1) := by decide +kernel
theorem dL_act_65 : decode cL_act 65 = .ok (.tableswitch 164 0 13 #[71, 71, 71, 71, 94, 94, 101, 101, 111, 111, 111, 121, 138, 159], 71) := by decide +kernel
theorem dL_act_136 : decode cL_act 136 = .ok (.aload_n 0, 1) := by decide +kernel
theorem dL_act_137 : decode cL_act 137 = .ok (.iload_n 2, 1) := by decide +kernel
theorem dL_act_138 : decode cL_act 138 = .ok (.bipush 22, 2) := by decide +kernel
theorem dL_act_140 : decode cL_act 140 = .ok (.ishr, 1) := by decide +kernel
theorem dL_act_141 : decode cL_act 141 = .ok (.bipush 31, 2) := by decide +kernel
theorem dL_act_143 : decode cL_act 143 = .ok (.iand, 1) := by decide +kernel
theorem dL_act_144 : decode cL_act 144 = .ok (.ifCond .ne 8, 3) := by decide +kernel
theorem dL_act_147 : decode cL_act 147 = .ok (.bipush 64, 2) := by decide +kernel
theorem dL_act_149 : decode cL_act 149 = .ok (.goto 4, 3) := by decide +kernel
theorem dL_act_152 : decode cL_act 152 = .ok (.iload_n 3, 1) := by decide +kernel
theorem dL_act_153 : decode cL_act 153 = .ok (.iload 4, 2) := by decide +kernel
theorem dL_act_155 : decode cL_act 155 = .ok (.invokevirtual 34, 3) := by decide +kernel
theorem dL_act_158 : decode cL_act 158 = .ok (.ireturn, 1) := by decide +kernel
theorem dL_act_159 : decode cL_act 159 = .ok (.aload_n 0, 1) := by decide +kernel
theorem dL_act_160 : decode cL_act 160 = .ok (.iload 5, 2) := by decide +kernel
theorem dL_act_162 : decode cL_act 162 = .ok (.invokevirtual 37, 3) := by decide +kernel
theorem dL_act_165 : decode cL_act 165 = .ok (.ireturn, 1) := by decide +kernel
theorem dL_act_166 : decode cL_act 166 = .ok (.aload_n 0, 1) := by decide +kernel
theorem dL_act_167 : decode cL_act 167 = .ok (.iload 5, 2) := by decide +kernel
theorem dL_act_169 : decode cL_act 169 = .ok (.iload_n 3, 1) := by decide +kernel
theorem dL_act_170 : decode cL_act 170 = .ok (.iload 4, 2) := by decide +kernel
theorem dL_act_172 : decode cL_act 172 = .ok (.invokevirtual 40, 3) := by decide +kernel
theorem dL_act_175 : decode cL_act 175 = .ok (.ireturn, 1) := by decide +kernel
theorem dL_act_176 : decode cL_act 176 = .ok (.aload_n 0, 1) := by decide +kernel
theorem dL_act_177 : decode cL_act 177 = .ok (.iload_n 3, 1) := by decide +kernel
theorem dL_act_178 : decode cL_act 178 = .ok (.iload 4, 2) := by decide +kernel
theorem dL_act_180 : decode cL_act 180 = .ok (.iload 5, 2) := by decide +kernel
theorem dL_act_182 : decode cL_act 182 = .ok (.invokevirtual 43, 3) := by decide +kernel
theorem dL_act_185 : decode cL_act 185 = .ok (.ireturn, 1) := by decide +kernel
theorem dL_act_186 : decode cL_act 186 = .ok (.aload_n 0, 1) := by decide +kernel
theorem dL_act_187 : decode cL_act 187 = .ok (.iload_n 3, 1) := by decide +kernel
theorem dL_act_188 : decode cL_act 188 = .ok (.iload 4, 2) := by decide +kernel
theorem dL_act_190 : decode cL_act 190 = .ok (.iload_n 2, 1) := by decide +kernel
theorem dL_act_191 : decode cL_act 191 = .ok (.iconst 3, 1) := by decide +kernel
theorem dL_act_192 : decode cL_act 192 = .ok (.ishr, 1) := by decide +kernel
theorem dL_act_193 : decode cL_act 193 = .ok (.sipush 1001, 3) := by decide +kernel
theorem dL_act_196 : decode cL_act 196 = .ok (.invokestatic 29, 3) := by decide +kernel
theorem dL_act_199 : decode cL_act 199 = .ok (.invokevirtual 46, 3) := by decide +kernel
theorem dL_act_202 : decode cL_act 202 = .ok (.ireturn, 1) := by decide +kernel
theorem dL_act_203 : decode cL_act 203 = .ok (.aload_n 0, 1) := by decide +kernel
theorem dL_act_204 : decode cL_act 204 = .ok (.iload_n 1, 1) := by decide +kernel
theorem dL_act_205 : decode cL_act 205 = .ok (.iconst 4, 1) := by decide +kernel
theorem dL_act_206 : decode cL_act 206 = .ok (.ishr, 1) := by decide +kernel
theorem dL_act_207 : decode cL_act 207 = .ok (.aload_n 0, 1) := by decide +kernel
theorem dL_act_208 : decode cL_act 208 = .ok (.iconst 3, 1) := by decide +kernel
theorem dL_act_209 : decode cL_act 209 = .ok (.invokevirtual 12, 3) := by decide +kernel
theorem dL_act_212 : decode cL_act 212 = .ok (.iconst 1, 1) := by decide +kernel
theorem dL_act_213 : decode cL_act 213 = .ok (.iadd, 1) := by decide +kernel
theorem dL_act_214 : decode cL_act 214 = .ok (.invokestatic 29, 3) := by decide +kernel
theorem dL_act_217 : decode cL_act 217 = .ok (.iload_n 3, 1) := by decide +kernel
theorem dL_act_218 : decode cL_act 218 = .ok (.iload 4, 2) := by decide +kernel
theorem dL_act_220 : decode cL_act 220 = .ok (.invokevirtual 49, 3) := by decide +kernel
theorem dL_act_223 : decode cL_act 223 = .ok (.ireturn, 1) := by decide +kernel
theorem dL_act_224 : decode cL_act 224 = .ok (.aload_n 0, 1) := by decide +kernel
theorem dL_act_225 : decode cL_act 225 = .ok (.invokevirtual 52, 3) := by decide +kernel
theorem dL_act_228 : decode cL_act 228 = .ok (.ireturn, 1) := by decide +kernel
theorem dL_act_229 : decode cL_act 229 = .ok (.aload_n 0, 1) := by decide +kernel
theorem dL_act_230 : decode cL_act 230 = .ok (.invokevirtual 56, 3) := by decide +kernel
theorem dL_act_233 : decode cL_act 233 = .ok (.pop, 1) := by decide +kernel
theorem dL_act_234 : decode cL_act 234 = .ok (.aload_n 0, 1) := by decide +kernel
theorem dL_act_235 : decode cL_act 235 = .ok (.bipush 48, 2) := by decide +kernel
theorem dL_act_237 : decode cL_act 237 = .ok (.iload_n 2, 1) := by decide +kernel
theorem dL_act_238 : decode cL_act 238 = .ok (.bipush 10, 2) := by decide +kernel
theorem dL_act_240 : decode cL_act 240 = .ok (.invokestatic 29, 3) := by decide +kernel
theorem dL_act_243 : decode cL_act 243 = .ok (.iadd, 1) := by decide +kernel
theorem dL_act_244 : decode cL_act 244 = .ok (.i2c, 1) := by decide +kernel
theorem dL_act_245 : decode cL_act 245 = .ok (.invokevirtual 59, 3) := by decide +kernel
theorem dL_act_248 : decode cL_act 248 = .ok (.pop, 1) := by decide +kernel
theorem dL_act_249 : decode cL_act 249 = .ok (.aload_n 0, 1) := by decide +kernel
theorem dL_act_250 : decode cL_act 250 = .ok (.bipush 44, 2) := by decide +kernel
theorem dL_act_252 : decode cL_act 252 = .ok (.invokevirtual 59, 3) := by decide +kernel
theorem dL_act_255 : decode cL_act 255 = .ok (.pop, 1) := by decide +kernel
theorem dL_act_256 : decode cL_act 256 = .ok (.aload_n 0, 1) := by decide +kernel
theorem dL_act_257 : decode cL_act 257 = .ok (.bipush 48, 2) := by decide +kernel
theorem dL_act_259 : decode cL_act 259 = .ok (.iload_n 2, 1) := by decide +kernel
theorem dL_act_260 : decode cL_act 260 = .ok (.iconst 4, 1) := by decide +kernel
theorem dL_act_261 : decode cL_act 261 = .ok (.ishr, 1) := by decide +kernel
theorem dL_act_262 : decode cL_act 262 = .ok (.bipush 10, 2) := by decide +kernel
theorem dL_act_264 : decode cL_act 264 = .ok (.invokestatic 29, 3) := by decide +kernel
theorem dL_act_267 : decode cL_act 267 = .ok (.iadd, 1) := by decide +kernel
theorem dL_act_268 : decode cL_act 268 = .ok (.i2c, 1) := by decide +kernel
theorem dL_act_269 : decode cL_act 269 = .ok (.invokevirtual 59, 3) := by decide +kernel
theorem dL_act_272 : decode cL_act 272 = .ok (.pop, 1) := by decide +kernel
theorem dL_act_273 : decode cL_act 273 = .ok (.aload_n 0, 1) := by decide +kernel
theorem dL_act_274 : decode cL_act 274 = .ok (.invokevirtual 63, 3) := by decide +kernel
theorem dL_act_277 : decode cL_act 277 = .ok (.ireturn, 1) := by decide +kernel
set_option maxRecDepth 20000 in
theorem ggL_holds_X5_count : GoodIn wsL_holds wsX5_count := goodIn_r _ [5, 6, 7, 8, 9, 10, 11, 12, 13, 14, 15, 16, 17, 18, 19, 20, 21, 22, 23, 24, 25, 26, 27, 28, 29, 30, 31, 32, 33, 34, 35, 36, 37, 38, 39, 40, 41, 42, 43, 44, 45, 46, 47, 48, 49, 50, 225, 226, 227, 228, 229, 230, 231, 232, 233, 234, 235, 236, 237, 238, 239, 240, 241, 242, 243, 244, 245, 246, 247, 248, 249, 250, 251, 252, 253] (by decide +kernel) (by decide +kernel)
set_option maxRecDepth 20000 in
theorem gL_holds_X5_count : GoodIn wsL_holds (wsV RL 12 RX5 yX5_count wsX5_count) := goodIn_app (goodIn_of _ (by decide +kernel)) ggL_holds_X5_count
set_option maxRecDepth 20000 in
theorem ggL_holds_X5_camper : GoodIn wsL_holds wsX5_camper := goodIn_r _ [54, 6, 55, 56, 57, 12, 58, 14, 15, 16, 17, 18, 19, 20, 21, 59, 60, 47, 48, 25, 49, 27, 50, 33, 61, 62, 63, 64, 28, 65, 4, 66, 67, 68, 69, 70, 71, 72, 73, 74, 75, 76, 77, 45, 78, 79, 80, 81, 82, 83, 84, 85, 86, 87, 88, 89, 90, 91, 92, 93, 94, 95, 96, 97, 98, 99, 100, 101, 102, 103, 104, 105, 106, 107, 108, 109, 110, 111, 112, 113, 114, 115, 116, 117, 118, 119, 120, 121, 122, 123, 124, 125, 126, 127, 128, 129, 130, 131, 132, 133, 134, 135, 136, 137, 138, 139, 140, 141, 142, 143, 144, 225, 226, 227, 228, 229, 230, 231, 232, 233, 234, 235, 236, 237, 238, 239, 240, 241, 242, 253, 243, 244, 245, 246, 247] (by decide +kernel) (by decide +kernel)

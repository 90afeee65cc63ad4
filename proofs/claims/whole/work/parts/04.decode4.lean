theorem dX6_takeBack_27 : decode cX6_takeBack 27 = .ok (.return_, 1) := by decide +kernel
theorem dX6_wide_0 : decode cX6_wide 0 = .ok (.bipush 64, 2) := by decide +kernel
theorem dX6_wide_2 : decode cX6_wide 2 = .ok (.iload_n 0, 1) := by decide +kernel
theorem dX6_wide_3 : decode cX6_wide 3 = .ok (.iconst 1, 1) := by decide +kernel
theorem dX6_wide_4 : decode cX6_wide 4 = .ok (.iadd, 1) := by decide +kernel
theorem dX6_wide_5 : decode cX6_wide 5 = .ok (.iconst 2, 1) := by decide +kernel
theorem dX6_wide_6 : decode cX6_wide 6 = .ok (.idiv, 1) := by decide +kernel
theorem dX6_wide_7 : decode cX6_wide 7 = .ok (.ishr, 1) := by decide +kernel
theorem dX6_wide_8 : decode cX6_wide 8 = .ok (.ireturn, 1) := by decide +kernel
theorem dX6_high_0 : decode cX6_high 0 = .ok (.bipush 64, 2) := by decide +kernel
theorem dX6_high_2 : decode cX6_high 2 = .ok (.iload_n 0, 1) := by decide +kernel
theorem dX6_high_3 : decode cX6_high 3 = .ok (.iconst 2, 1) := by decide +kernel
theorem dX6_high_4 : decode cX6_high 4 = .ok (.idiv, 1) := by decide +kernel
theorem dX6_high_5 : decode cX6_high 5 = .ok (.ishr, 1) := by decide +kernel
theorem dX6_high_6 : decode cX6_high 6 = .ok (.ireturn, 1) := by decide +kernel
set_option maxRecDepth 20000 in
theorem ggX6_lastX_X6_ofPlot : GoodIn wsX6_lastX wsX6_ofPlot := goodIn_r _ [5, 6, 10, 11, 12, 13, 14, 15, 16, 17, 18, 19, 20, 21, 22, 23] (by decide +kernel) (by decide +kernel)
set_option maxRecDepth 20000 in
theorem gX6_lastX_X6_ofPlot : GoodIn wsX6_lastX (wsV RX6 46 RX6 yX6_ofPlot wsX6_ofPlot) := goodIn_app (goodIn_of _ (by decide +kernel)) ggX6_lastX_X6_ofPlot
set_option maxRecDepth 20000 in
theorem ggX6_lastX_X6_wide : GoodIn wsX6_lastX wsX6_wide := goodIn_r _ [9] (by decide +kernel) (by decide +kernel)
set_option maxRecDepth 20000 in
theorem gX6_lastX_X6_wide : GoodIn wsX6_lastX (va_wsS RX6 49 yX6_wide wsX6_wide) := goodIn_app (goodIn_of _ (by decide +kernel)) ggX6_lastX_X6_wide
theorem dX6_lastX_0 : decode cX6_lastX 0 = .ok (.aload_n 0, 1) := by decide +kernel
theorem dX6_lastX_1 : decode cX6_lastX 1 = .ok (.iload_n 1, 1) := by decide +kernel
theorem dX6_lastX_2 : decode cX6_lastX 2 = .ok (.iconst 1, 1) := by decide +kernel
theorem dX6_lastX_3 : decode cX6_lastX 3 = .ok (.invokevirtual 46, 3) := by decide +kernel
theorem dX6_lastX_6 : decode cX6_lastX 6 = .ok (.aload_n 0, 1) := by decide +kernel
theorem dX6_lastX_7 : decode cX6_lastX 7 = .ok (.iload_n 1, 1) := by decide +kernel
theorem dX6_lastX_8 : decode cX6_lastX 8 = .ok (.iconst 0, 1) := by decide +kernel
theorem dX6_lastX_9 : decode cX6_lastX 9 = .ok (.invokevirtual 46, 3) := by decide +kernel
theorem dX6_lastX_12 : decode cX6_lastX 12 = .ok (.invokestatic 49, 3) := by decide +kernel
theorem dX6_lastX_15 : decode cX6_lastX 15 = .ok (.iadd, 1) := by decide +kernel
theorem dX6_lastX_16 : decode cX6_lastX 16 = .ok (.iconst 1, 1) := by decide +kernel
theorem dX6_lastX_17 : decode cX6_lastX 17 = .ok (.isub, 1) := by decide +kernel
theorem dX6_lastX_18 : decode cX6_lastX 18 = .ok (.ireturn, 1) := by decide +kernel
set_option maxRecDepth 20000 in
theorem ggX6_lastY_X6_ofPlot : GoodIn wsX6_lastY wsX6_ofPlot := goodIn_r _ [5, 6, 10, 11, 12, 13, 14, 15, 16, 17, 18, 19, 20, 21, 22, 23] (by decide +kernel) (by decide +kernel)
set_option maxRecDepth 20000 in
theorem gX6_lastY_X6_ofPlot : GoodIn wsX6_lastY (wsV RX6 46 RX6 yX6_ofPlot wsX6_ofPlot) := goodIn_app (goodIn_of _ (by decide +kernel)) ggX6_lastY_X6_ofPlot
set_option maxRecDepth 20000 in
theorem ggX6_lastY_X6_high : GoodIn wsX6_lastY wsX6_high := goodIn_r _ [9] (by decide +kernel) (by decide +kernel)
set_option maxRecDepth 20000 in
theorem gX6_lastY_X6_high : GoodIn wsX6_lastY (va_wsS RX6 53 yX6_high wsX6_high) := goodIn_app (goodIn_of _ (by decide +kernel)) ggX6_lastY_X6_high
theorem dX6_lastY_0 : decode cX6_lastY 0 = .ok (.aload_n 0, 1) := by decide +kernel
theorem dX6_lastY_1 : decode cX6_lastY 1 = .ok (.iload_n 1, 1) := by decide +kernel
theorem dX6_lastY_2 : decode cX6_lastY 2 = .ok (.iconst 2, 1) := by decide +kernel
theorem dX6_lastY_3 : decode cX6_lastY 3 = .ok (.invokevirtual 46, 3) := by decide +kernel
theorem dX6_lastY_6 : decode cX6_lastY 6 = .ok (.aload_n 0, 1) := by decide +kernel
theorem dX6_lastY_7 : decode cX6_lastY 7 = .ok (.iload_n 1, 1) := by decide +kernel
theorem dX6_lastY_8 : decode cX6_lastY 8 = .ok (.iconst 0, 1) := by decide +kernel
theorem dX6_lastY_9 : decode cX6_lastY 9 = .ok (.invokevirtual 46, 3) := by decide +kernel
theorem dX6_lastY_12 : decode cX6_lastY 12 = .ok (.invokestatic 53, 3) := by decide +kernel
theorem dX6_lastY_15 : decode cX6_lastY 15 = .ok (.iadd, 1) := by decide +kernel
theorem dX6_lastY_16 : decode cX6_lastY 16 = .ok (.iconst 1, 1) := by decide +kernel
theorem dX6_lastY_17 : decode cX6_lastY 17 = .ok (.isub, 1) := by decide +kernel
theorem dX6_lastY_18 : decode cX6_lastY 18 = .ok (.ireturn, 1) := by decide +kernel
set_option maxRecDepth 20000 in
theorem ggX6_area_X6_ofPlot : GoodIn wsX6_area wsX6_ofPlot := goodIn_r _ [5, 6, 13, 14, 15, 16, 17, 18, 19, 20, 21, 22, 23, 24, 25, 26] (by decide +kernel) (by decide +kernel)
set_option maxRecDepth 20000 in
theorem gX6_area_X6_ofPlot : GoodIn wsX6_area (wsV RX6 46 RX6 yX6_ofPlot wsX6_ofPlot) := goodIn_app (goodIn_of _ (by decide +kernel)) ggX6_area_X6_ofPlot
set_option maxRecDepth 20000 in
theorem ggX6_area_X6_wide : GoodIn wsX6_area wsX6_wide := goodIn_r _ [9] (by decide +kernel) (by decide +kernel)
set_option maxRecDepth 20000 in
theorem gX6_area_X6_wide : GoodIn wsX6_area (va_wsS RX6 49 yX6_wide wsX6_wide) := goodIn_app (goodIn_of _ (by decide +kernel)) ggX6_area_X6_wide
set_option maxRecDepth 20000 in
theorem ggX6_area_X6_high : GoodIn wsX6_area wsX6_high := goodIn_r _ [12] (by decide +kernel) (by decide +kernel)
set_option maxRecDepth 20000 in
theorem gX6_area_X6_high : GoodIn wsX6_area (va_wsS RX6 53 yX6_high wsX6_high) := goodIn_app (goodIn_of _ (by decide +kernel)) ggX6_area_X6_high
theorem dX6_area_0 : decode cX6_area 0 = .ok (.aload_n 0, 1) := by decide +kernel
theorem dX6_area_1 : decode cX6_area 1 = .ok (.iload_n 1, 1) := by decide +kernel
theorem dX6_area_2 : decode cX6_area 2 = .ok (.iconst 0, 1) := by decide +kernel
theorem dX6_area_3 : decode cX6_area 3 = .ok (.invokevirtual 46, 3) := by decide +kernel
theorem dX6_area_6 : decode cX6_area 6 = .ok (.invokestatic 49, 3) := by decide +kernel
theorem dX6_area_9 : decode cX6_area 9 = .ok (.aload_n 0, 1) := by decide +kernel
theorem dX6_area_10 : decode cX6_area 10 = .ok (.iload_n 1, 1) := by decide +kernel
theorem dX6_area_11 : decode cX6_area 11 = .ok (.iconst 0, 1) := by decide +kernel
theorem dX6_area_12 : decode cX6_area 12 = .ok (.invokevirtual 46, 3) := by decide +kernel
theorem dX6_area_15 : decode cX6_area 15 = .ok (.invokestatic 53, 3) := by decide +kernel
theorem dX6_area_18 : decode cX6_area 18 = .ok (.imul, 1) := by decide +kernel
theorem dX6_area_19 : decode cX6_area 19 = .ok (.ireturn, 1) := by decide +kernel
set_option maxRecDepth 20000 in
theorem ggX6_has_X6_ofPlot : GoodIn wsX6_has wsX6_ofPlot := goodIn_r _ [5, 6, 24, 25, 26, 27, 28, 29, 30, 31, 32, 33, 34, 35, 36, 37] (by decide +kernel) (by decide +kernel)
set_option maxRecDepth 20000 in
theorem gX6_has_X6_ofPlot : GoodIn wsX6_has (wsV RX6 46 RX6 yX6_ofPlot wsX6_ofPlot) := goodIn_app (goodIn_of _ (by decide +kernel)) ggX6_has_X6_ofPlot
set_option maxRecDepth 20000 in
theorem ggX6_has_X6_lastX : GoodIn wsX6_has wsX6_lastX := goodIn_r _ [10, 1, 2, 3, 4, 5, 6, 11, 12, 13, 24, 25, 26, 27, 28, 29, 30, 31, 32, 33, 34, 35, 36, 37] (by decide +kernel) (by decide +kernel)
set_option maxRecDepth 20000 in
theorem gX6_has_X6_lastX : GoodIn wsX6_has (wsV RX6 56 RX6 yX6_lastX wsX6_lastX) := goodIn_app (goodIn_of _ (by decide +kernel)) ggX6_has_X6_lastX
set_option maxRecDepth 20000 in
theorem ggX6_has_X6_in : GoodIn wsX6_has wsX6_in := goodIn_r _ [16] (by decide +kernel) (by decide +kernel)
set_option maxRecDepth 20000 in
theorem gX6_has_X6_in : GoodIn wsX6_has (va_wsS RX6 35 yX6_in wsX6_in) := goodIn_app (goodIn_of _ (by decide +kernel)) ggX6_has_X6_in
set_option maxRecDepth 20000 in
theorem ggX6_has_X6_lastY : GoodIn wsX6_has wsX6_lastY := goodIn_r _ [20, 1, 2, 3, 4, 5, 6, 21, 22, 23, 24, 25, 26, 27, 28, 29, 30, 31, 32, 33, 34, 35, 36, 37] (by decide +kernel) (by decide +kernel)
set_option maxRecDepth 20000 in
theorem gX6_has_X6_lastY : GoodIn wsX6_has (wsV RX6 59 RX6 yX6_lastY wsX6_lastY) := goodIn_app (goodIn_of _ (by decide +kernel)) ggX6_has_X6_lastY
theorem dX6_has_0 : decode cX6_has 0 = .ok (.iload_n 2, 1) := by decide +kernel
theorem dX6_has_1 : decode cX6_has 1 = .ok (.aload_n 0, 1) := by decide +kernel
theorem dX6_has_2 : decode cX6_has 2 = .ok (.iload_n 1, 1) := by decide +kernel
theorem dX6_has_3 : decode cX6_has 3 = .ok (.iconst 1, 1) := by decide +kernel
theorem dX6_has_4 : decode cX6_has 4 = .ok (.invokevirtual 46, 3) := by decide +kernel
theorem dX6_has_7 : decode cX6_has 7 = .ok (.aload_n 0, 1) := by decide +kernel
theorem dX6_has_8 : decode cX6_has 8 = .ok (.iload_n 1, 1) := by decide +kernel
theorem dX6_has_9 : decode cX6_has 9 = .ok (.invokevirtual 56, 3) := by decide +kernel
theorem dX6_has_12 : decode cX6_has 12 = .ok (.invokestatic 35, 3) := by decide +kernel
theorem dX6_has_15 : decode cX6_has 15 = .ok (.ifCond .eq 25, 3) := by decide +kernel
theorem dX6_has_18 : decode cX6_has 18 = .ok (.iload_n 3, 1) := by decide +kernel
theorem dX6_has_19 : decode cX6_has 19 = .ok (.aload_n 0, 1) := by decide +kernel
theorem dX6_has_20 : decode cX6_has 20 = .ok (.iload_n 1, 1) := by decide +kernel
theorem dX6_has_21 : decode cX6_has 21 = .ok (.iconst 2, 1) := by decide +kernel
theorem dX6_has_22 : decode cX6_has 22 = .ok (.invokevirtual 46, 3) := by decide +kernel
theorem dX6_has_25 : decode cX6_has 25 = .ok (.aload_n 0, 1) := by decide +kernel
theorem dX6_has_26 : decode cX6_has 26 = .ok (.iload_n 1, 1) := by decide +kernel
theorem dX6_has_27 : decode cX6_has 27 = .ok (.invokevirtual 59, 3) := by decide +kernel
theorem dX6_has_30 : decode cX6_has 30 = .ok (.invokestatic 35, 3) := by decide +kernel
theorem dX6_has_33 : decode cX6_has 33 = .ok (.ifCond .eq 7, 3) := by decide +kernel
theorem dX6_has_36 : decode cX6_has 36 = .ok (.iconst 1, 1) := by decide +kernel
theorem dX6_has_37 : decode cX6_has 37 = .ok (.goto 4, 3) := by decide +kernel
theorem dX6_has_40 : decode cX6_has 40 = .ok (.iconst 0, 1) := by decide +kernel
theorem dX6_has_41 : decode cX6_has 41 = .ok (.ireturn, 1) := by decide +kernel
set_option maxRecDepth 20000 in
theorem ggX6_plotAt_X6_has : GoodIn wsX6_plotAt wsX6_has := goodIn_r _ [5, 6, 7, 8, 4, 9, 10, 11, 12, 13, 14, 15, 16, 17, 18, 19, 20, 21, 22, 23, 24, 25, 26, 27, 28, 29, 30, 31, 32, 33, 34, 35, 36, 37, 38, 39, 40, 41] (by decide +kernel) (by decide +kernel)
set_option maxRecDepth 20000 in
theorem gX6_plotAt_X6_has : GoodIn wsX6_plotAt (wsV RX6 62 RX6 yX6_has wsX6_has) := goodIn_app (goodIn_of _ (by decide +kernel)) ggX6_plotAt_X6_has
theorem dX6_plotAt_0 : decode cX6_plotAt 0 = .ok (.iconst 0, 1) := by decide +kernel
theorem dX6_plotAt_1 : decode cX6_plotAt 1 = .ok (.istore_n 3, 1) := by decide +kernel
theorem dX6_plotAt_2 : decode cX6_plotAt 2 = .ok (.aload_n 0, 1) := by decide +kernel
theorem dX6_plotAt_3 : decode cX6_plotAt 3 = .ok (.iload_n 3, 1) := by decide +kernel
theorem dX6_plotAt_4 : decode cX6_plotAt 4 = .ok (.iload_n 1, 1) := by decide +kernel
theorem dX6_plotAt_5 : decode cX6_plotAt 5 = .ok (.iload_n 2, 1) := by decide +kernel
theorem dX6_plotAt_6 : decode cX6_plotAt 6 = .ok (.invokevirtual 62, 3) := by decide +kernel
theorem dX6_plotAt_9 : decode cX6_plotAt 9 = .ok (.ifCond .ne 9, 3) := by decide +kernel
theorem dX6_plotAt_12 : decode cX6_plotAt 12 = .ok (.iinc 3 1, 3) := by decide +kernel
theorem dX6_plotAt_15 : decode cX6_plotAt 15 = .ok (.goto (-13), 3) := by decide +kernel
theorem dX6_plotAt_18 : decode cX6_plotAt 18 = .ok (.iload_n 3, 1) := by decide +kernel
theorem dX6_plotAt_19 : decode cX6_plotAt 19 = .ok (.ireturn, 1) := by decide +kernel
theorem dX6_overlap_0 : decode cX6_overlap 0 = .ok (.iload_n 0, 1) := by decide +kernel
theorem dX6_overlap_1 : decode cX6_overlap 1 = .ok (.iload_n 3, 1) := by decide +kernel
theorem dX6_overlap_2 : decode cX6_overlap 2 = .ok (.if_icmp .gt 12, 3) := by decide +kernel
theorem dX6_overlap_5 : decode cX6_overlap 5 = .ok (.iload_n 2, 1) := by decide +kernel
theorem dX6_overlap_6 : decode cX6_overlap 6 = .ok (.iload_n 1, 1) := by decide +kernel
theorem dX6_overlap_7 : decode cX6_overlap 7 = .ok (.if_icmp .gt 7, 3) := by decide +kernel
theorem dX6_overlap_10 : decode cX6_overlap 10 = .ok (.iconst 1, 1) := by decide +kernel
theorem dX6_overlap_11 : decode cX6_overlap 11 = .ok (.goto 4, 3) := by decide +kernel
theorem dX6_overlap_14 : decode cX6_overlap 14 = .ok (.iconst 0, 1) := by decide +kernel
theorem dX6_overlap_15 : decode cX6_overlap 15 = .ok (.ireturn, 1) := by decide +kernel
set_option maxRecDepth 20000 in
theorem ggX6_touch_X6_lastX : GoodIn wsX6_touch wsX6_lastX := goodIn_r _ [5, 6, 7, 8, 4, 9, 10, 11, 12, 13, 24, 25, 26, 27, 28, 29, 30, 31, 32, 33, 34, 35, 36, 37] (by decide +kernel) (by decide +kernel)
set_option maxRecDepth 20000 in
theorem gX6_touch_X6_lastX : GoodIn wsX6_touch (wsV RX6 56 RX6 yX6_lastX wsX6_lastX) := goodIn_app (goodIn_of _ (by decide +kernel)) ggX6_touch_X6_lastX
set_option maxRecDepth 20000 in
theorem ggX6_touch_X6_ofPlot : GoodIn wsX6_touch wsX6_ofPlot := goodIn_r _ [9, 10, 24, 25, 26, 27, 28, 29, 30, 31, 32, 33, 34, 35, 36, 37] (by decide +kernel) (by decide +kernel)
set_option maxRecDepth 20000 in
theorem gX6_touch_X6_ofPlot : GoodIn wsX6_touch (wsV RX6 46 RX6 yX6_ofPlot wsX6_ofPlot) := goodIn_app (goodIn_of _ (by decide +kernel)) ggX6_touch_X6_ofPlot
set_option maxRecDepth 20000 in
theorem ggX6_touch_X6_lastY : GoodIn wsX6_touch wsX6_lastY := goodIn_r _ [17, 6, 7, 8, 4, 9, 10, 18, 19, 20, 24, 25, 26, 27, 28, 29, 30, 31, 32, 33, 34, 35, 36, 37] (by decide +kernel) (by decide +kernel)
set_option maxRecDepth 20000 in
theorem gX6_touch_X6_lastY : GoodIn wsX6_touch (wsV RX6 59 RX6 yX6_lastY wsX6_lastY) := goodIn_app (goodIn_of _ (by decide +kernel)) ggX6_touch_X6_lastY
set_option maxRecDepth 20000 in
theorem ggX6_touch_X6_overlap : GoodIn wsX6_touch wsX6_overlap := goodIn_r _ [23] (by decide +kernel) (by decide +kernel)
set_option maxRecDepth 20000 in
theorem gX6_touch_X6_overlap : GoodIn wsX6_touch (va_wsS RX6 65 yX6_overlap wsX6_overlap) := goodIn_app (goodIn_of _ (by decide +kernel)) ggX6_touch_X6_overlap
theorem dX6_touch_0 : decode cX6_touch 0 = .ok (.aload_n 0, 1) := by decide +kernel
theorem dX6_touch_1 : decode cX6_touch 1 = .ok (.iload_n 1, 1) := by decide +kernel
theorem dX6_touch_2 : decode cX6_touch 2 = .ok (.invokevirtual 56, 3) := by decide +kernel
theorem dX6_touch_5 : decode cX6_touch 5 = .ok (.iconst 1, 1) := by decide +kernel
theorem dX6_touch_6 : decode cX6_touch 6 = .ok (.iadd, 1) := by decide +kernel
theorem dX6_touch_7 : decode cX6_touch 7 = .ok (.aload_n 0, 1) := by decide +kernel
theorem dX6_touch_8 : decode cX6_touch 8 = .ok (.iload_n 2, 1) := by decide +kernel
theorem dX6_touch_9 : decode cX6_touch 9 = .ok (.iconst 1, 1) := by decide +kernel
theorem dX6_touch_10 : decode cX6_touch 10 = .ok (.invokevirtual 46, 3) := by decide +kernel
theorem dX6_touch_13 : decode cX6_touch 13 = .ok (.if_icmp .eq 19, 3) := by decide +kernel
theorem dX6_touch_16 : decode cX6_touch 16 = .ok (.aload_n 0, 1) := by decide +kernel
theorem dX6_touch_17 : decode cX6_touch 17 = .ok (.iload_n 2, 1) := by decide +kernel
theorem dX6_touch_18 : decode cX6_touch 18 = .ok (.invokevirtual 56, 3) := by decide +kernel
theorem dX6_touch_21 : decode cX6_touch 21 = .ok (.iconst 1, 1) := by decide +kernel
theorem dX6_touch_22 : decode cX6_touch 22 = .ok (.iadd, 1) := by decide +kernel
theorem dX6_touch_23 : decode cX6_touch 23 = .ok (.aload_n 0, 1) := by decide +kernel
theorem dX6_touch_24 : decode cX6_touch 24 = .ok (.iload_n 1, 1) := by decide +kernel
theorem dX6_touch_25 : decode cX6_touch 25 = .ok (.iconst 1, 1) := by decide +kernel
theorem dX6_touch_26 : decode cX6_touch 26 = .ok (.invokevirtual 46, 3) := by decide +kernel
theorem dX6_touch_29 : decode cX6_touch 29 = .ok (.if_icmp .ne 7, 3) := by decide +kernel
theorem dX6_touch_32 : decode cX6_touch 32 = .ok (.iconst 1, 1) := by decide +kernel
theorem dX6_touch_33 : decode cX6_touch 33 = .ok (.goto 4, 3) := by decide +kernel
theorem dX6_touch_36 : decode cX6_touch 36 = .ok (.iconst 0, 1) := by decide +kernel
theorem dX6_touch_37 : decode cX6_touch 37 = .ok (.istore_n 3, 1) := by decide +kernel
theorem dX6_touch_38 : decode cX6_touch 38 = .ok (.aload_n 0, 1) := by decide +kernel
theorem dX6_touch_39 : decode cX6_touch 39 = .ok (.iload_n 1, 1) := by decide +kernel
theorem dX6_touch_40 : decode cX6_touch 40 = .ok (.invokevirtual 59, 3) := by decide +kernel
theorem dX6_touch_43 : decode cX6_touch 43 = .ok (.iconst 1, 1) := by decide +kernel
theorem dX6_touch_44 : decode cX6_touch 44 = .ok (.iadd, 1) := by decide +kernel
theorem dX6_touch_45 : decode cX6_touch 45 = .ok (.aload_n 0, 1) := by decide +kernel
theorem dX6_touch_46 : decode cX6_touch 46 = .ok (.iload_n 2, 1) := by decide +kernel
theorem dX6_touch_47 : decode cX6_touch 47 = .ok (.iconst 2, 1) := by decide +kernel
theorem dX6_touch_48 : decode cX6_touch 48 = .ok (.invokevirtual 46, 3) := by decide +kernel
theorem dX6_touch_51 : decode cX6_touch 51 = .ok (.if_icmp .eq 19, 3) := by decide +kernel
theorem dX6_touch_54 : decode cX6_touch 54 = .ok (.aload_n 0, 1) := by decide +kernel
theorem dX6_touch_55 : decode cX6_touch 55 = .ok (.iload_n 2, 1) := by decide +kernel
theorem dX6_touch_56 : decode cX6_touch 56 = .ok (.invokevirtual 59, 3) := by decide +kernel
theorem dX6_touch_59 : decode cX6_touch 59 = .ok (.iconst 1, 1) := by decide +kernel
theorem dX6_touch_60 : decode cX6_touch 60 = .ok (.iadd, 1) := by decide +kernel
theorem dX6_touch_61 : decode cX6_touch 61 = .ok (.aload_n 0, 1) := by decide +kernel
theorem dX6_touch_62 : decode cX6_touch 62 = .ok (.iload_n 1, 1) := by decide +kernel
theorem dX6_touch_63 : decode cX6_touch 63 = .ok (.iconst 2, 1) := by decide +kernel
theorem dX6_touch_64 : decode cX6_touch 64 = .ok (.invokevirtual 46, 3) := by decide +kernel
theorem dX6_touch_67 : decode cX6_touch 67 = .ok (.if_icmp .ne 7, 3) := by decide +kernel
theorem dX6_touch_70 : decode cX6_touch 70 = .ok (.iconst 1, 1) := by decide +kernel
theorem dX6_touch_71 : decode cX6_touch 71 = .ok (.goto 4, 3) := by decide +kernel
theorem dX6_touch_74 : decode cX6_touch 74 = .ok (.iconst 0, 1) := by decide +kernel
theorem dX6_touch_75 : decode cX6_touch 75 = .ok (.istore 4, 2) := by decide +kernel
theorem dX6_touch_77 : decode cX6_touch 77 = .ok (.aload_n 0, 1) := by decide +kernel
theorem dX6_touch_78 : decode cX6_touch 78 = .ok (.iload_n 1, 1) := by decide +kernel
theorem dX6_touch_79 : decode cX6_touch 79 = .ok (.iconst 2, 1) := by decide +kernel
theorem dX6_touch_80 : decode cX6_touch 80 = .ok (.invokevirtual 46, 3) := by decide +kernel
theorem dX6_touch_83 : decode cX6_touch 83 = .ok (.aload_n 0, 1) := by decide +kernel
theorem dX6_touch_84 : decode cX6_touch 84 = .ok (.iload_n 1, 1) := by decide +kernel
theorem dX6_touch_85 : decode cX6_touch 85 = .ok (.invokevirtual 59, 3) := by decide +kernel
theorem dX6_touch_88 : decode cX6_touch 88 = .ok (.aload_n 0, 1) := by decide +kernel
theorem dX6_touch_89 : decode cX6_touch 89 = .ok (.iload_n 2, 1) := by decide +kernel
theorem dX6_touch_90 : decode cX6_touch 90 = .ok (.iconst 2, 1) := by decide +kernel
theorem dX6_touch_91 : decode cX6_touch 91 = .ok (.invokevirtual 46, 3) := by decide +kernel
theorem dX6_touch_94 : decode cX6_touch 94 = .ok (.aload_n 0, 1) := by decide +kernel
theorem dX6_touch_95 : decode cX6_touch 95 = .ok (.iload_n 2, 1) := by decide +kernel
theorem dX6_touch_96 : decode cX6_touch 96 = .ok (.invokevirtual 59, 3) := by decide +kernel
theorem dX6_touch_99 : decode cX6_touch 99 = .ok (.invokestatic 65, 3) := by decide +kernel
theorem dX6_touch_102 : decode cX6_touch 102 = .ok (.istore 5, 2) := by decide +kernel
theorem dX6_touch_104 : decode cX6_touch 104 = .ok (.aload_n 0, 1) := by decide +kernel
theorem dX6_touch_105 : decode cX6_touch 105 = .ok (.iload_n 1, 1) := by decide +kernel
theorem dX6_touch_106 : decode cX6_touch 106 = .ok (.iconst 1, 1) := by decide +kernel
theorem dX6_touch_107 : decode cX6_touch 107 = .ok (.invokevirtual 46, 3) := by decide +kernel
theorem dX6_touch_110 : decode cX6_touch 110 = .ok (.aload_n 0, 1) := by decide +kernel
theorem dX6_touch_111 : decode cX6_touch 111 = .ok (.iload_n 1, 1) := by decide +kernel
theorem dX6_touch_112 : decode cX6_touch 112 = .ok (.invokevirtual 56, 3) := by decide +kernel
theorem dX6_touch_115 : decode cX6_touch 115 = .ok (.aload_n 0, 1) := by decide +kernel
theorem dX6_touch_116 : decode cX6_touch 116 = .ok (.iload_n 2, 1) := by decide +kernel
theorem dX6_touch_117 : decode cX6_touch 117 = .ok (.iconst 1, 1) := by decide +kernel
theorem dX6_touch_118 : decode cX6_touch 118 = .ok (.invokevirtual 46, 3) := by decide +kernel
theorem dX6_touch_121 : decode cX6_touch 121 = .ok (.aload_n 0, 1) := by decide +kernel
theorem dX6_touch_122 : decode cX6_touch 122 = .ok (.iload_n 2, 1) := by decide +kernel
theorem dX6_touch_123 : decode cX6_touch 123 = .ok (.invokevirtual 56, 3) := by decide +kernel
theorem dX6_touch_126 : decode cX6_touch 126 = .ok (.invokestatic 65, 3) := by decide +kernel
theorem dX6_touch_129 : decode cX6_touch 129 = .ok (.istore 6, 2) := by decide +kernel
theorem dX6_touch_131 : decode cX6_touch 131 = .ok (.iload_n 3, 1) := by decide +kernel
theorem dX6_touch_132 : decode cX6_touch 132 = .ok (.ifCond .eq 8, 3) := by decide +kernel
theorem dX6_touch_135 : decode cX6_touch 135 = .ok (.iload 5, 2) := by decide +kernel
theorem dX6_touch_137 : decode cX6_touch 137 = .ok (.ifCond .ne 13, 3) := by decide +kernel
theorem dX6_touch_140 : decode cX6_touch 140 = .ok (.iload 4, 2) := by decide +kernel
theorem dX6_touch_142 : decode cX6_touch 142 = .ok (.ifCond .eq 12, 3) := by decide +kernel
theorem dX6_touch_145 : decode cX6_touch 145 = .ok (.iload 6, 2) := by decide +kernel
theorem dX6_touch_147 : decode cX6_touch 147 = .ok (.ifCond .eq 7, 3) := by decide +kernel
theorem dX6_touch_150 : decode cX6_touch 150 = .ok (.iconst 1, 1) := by decide +kernel
theorem dX6_touch_151 : decode cX6_touch 151 = .ok (.goto 4, 3) := by decide +kernel
theorem dX6_touch_154 : decode cX6_touch 154 = .ok (.iconst 0, 1) := by decide +kernel
theorem dX6_touch_155 : decode cX6_touch 155 = .ok (.ireturn, 1) := by decide +kernel
set_option maxRecDepth 20000 in
theorem ggX6_isAhead_X6_ofPlot : GoodIn wsX6_isAhead wsX6_ofPlot := goodIn_r _ [5, 6, 7, 8, 9, 10, 11, 12, 13, 14, 15, 16, 17, 18, 19, 20] (by decide +kernel) (by decide +kernel)
set_option maxRecDepth 20000 in
theorem gX6_isAhead_X6_ofPlot : GoodIn wsX6_isAhead (wsV RX6 46 RX6 yX6_ofPlot wsX6_ofPlot) := goodIn_app (goodIn_of _ (by decide +kernel)) ggX6_isAhead_X6_ofPlot
theorem dX6_isAhead_0 : decode cX6_isAhead 0 = .ok (.aload_n 0, 1) := by decide +kernel
theorem dX6_isAhead_1 : decode cX6_isAhead 1 = .ok (.iload_n 1, 1) := by decide +kernel
theorem dX6_isAhead_2 : decode cX6_isAhead 2 = .ok (.iconst 1, 1) := by decide +kernel
theorem dX6_isAhead_3 : decode cX6_isAhead 3 = .ok (.invokevirtual 46, 3) := by decide +kernel
theorem dX6_isAhead_6 : decode cX6_isAhead 6 = .ok (.aload_n 0, 1) := by decide +kernel
theorem dX6_isAhead_7 : decode cX6_isAhead 7 = .ok (.iload_n 2, 1) := by decide +kernel
theorem dX6_isAhead_8 : decode cX6_isAhead 8 = .ok (.iconst 1, 1) := by decide +kernel
theorem dX6_isAhead_9 : decode cX6_isAhead 9 = .ok (.invokevirtual 46, 3) := by decide +kernel
theorem dX6_isAhead_12 : decode cX6_isAhead 12 = .ok (.isub, 1) := by decide +kernel
theorem dX6_isAhead_13 : decode cX6_isAhead 13 = .ok (.istore_n 3, 1) := by decide +kernel
theorem dX6_isAhead_14 : decode cX6_isAhead 14 = .ok (.iload_n 3, 1) := by decide +kernel
theorem dX6_isAhead_15 : decode cX6_isAhead 15 = .ok (.ifCond .eq 15, 3) := by decide +kernel
theorem dX6_isAhead_18 : decode cX6_isAhead 18 = .ok (.iload_n 3, 1) := by decide +kernel
theorem dX6_isAhead_19 : decode cX6_isAhead 19 = .ok (.ifCond .ge 7, 3) := by decide +kernel
theorem dX6_isAhead_22 : decode cX6_isAhead 22 = .ok (.iconst 1, 1) := by decide +kernel
theorem dX6_isAhead_23 : decode cX6_isAhead 23 = .ok (.goto 27, 3) := by decide +kernel
theorem dX6_isAhead_26 : decode cX6_isAhead 26 = .ok (.iconst 0, 1) := by decide +kernel
theorem dX6_isAhead_27 : decode cX6_isAhead 27 = .ok (.goto 23, 3) := by decide +kernel
theorem dX6_isAhead_30 : decode cX6_isAhead 30 = .ok (.aload_n 0, 1) := by decide +kernel
theorem dX6_isAhead_31 : decode cX6_isAhead 31 = .ok (.iload_n 1, 1) := by decide +kernel
theorem dX6_isAhead_32 : decode cX6_isAhead 32 = .ok (.iconst 2, 1) := by decide +kernel
theorem dX6_isAhead_33 : decode cX6_isAhead 33 = .ok (.invokevirtual 46, 3) := by decide +kernel
theorem dX6_isAhead_36 : decode cX6_isAhead 36 = .ok (.aload_n 0, 1) := by decide +kernel
theorem dX6_isAhead_37 : decode cX6_isAhead 37 = .ok (.iload_n 2, 1) := by decide +kernel
theorem dX6_isAhead_38 : decode cX6_isAhead 38 = .ok (.iconst 2, 1) := by decide +kernel
theorem dX6_isAhead_39 : decode cX6_isAhead 39 = .ok (.invokevirtual 46, 3) := by decide +kernel
theorem dX6_isAhead_42 : decode cX6_isAhead 42 = .ok (.if_icmp .ge 7, 3) := by decide +kernel
theorem dX6_isAhead_45 : decode cX6_isAhead 45 = .ok (.iconst 1, 1) := by decide +kernel
theorem dX6_isAhead_46 : decode cX6_isAhead 46 = .ok (.goto 4, 3) := by decide +kernel
theorem dX6_isAhead_49 : decode cX6_isAhead 49 = .ok (.iconst 0, 1) := by decide +kernel
theorem dX6_isAhead_50 : decode cX6_isAhead 50 = .ok (.ireturn, 1) := by decide +kernel
set_option maxRecDepth 20000 in
theorem ggX6_halves_X6_ofPlot : GoodIn wsX6_halves wsX6_ofPlot := goodIn_r _ [6, 1, 17, 18, 19, 20, 21, 22, 23, 24, 25, 26, 27, 28, 29, 30] (by decide +kernel) (by decide +kernel)
set_option maxRecDepth 20000 in
theorem gX6_halves_X6_ofPlot : GoodIn wsX6_halves (wsV RX6 46 RX6 yX6_ofPlot wsX6_ofPlot) := goodIn_app (goodIn_of _ (by decide +kernel)) ggX6_halves_X6_ofPlot
set_option maxRecDepth 20000 in
theorem ggX6_halves_X6_layPlot : GoodIn wsX6_halves wsX6_layPlot := goodIn_r _ [10, 1, 17, 18, 19, 20, 21, 22, 23, 24, 25, 26, 27, 28, 29, 30] (by decide +kernel) (by decide +kernel)
set_option maxRecDepth 20000 in
theorem gX6_halves_X6_layPlot : GoodIn wsX6_halves (wsV RX6 69 RX6 yX6_layPlot wsX6_layPlot) := goodIn_app (goodIn_of _ (by decide +kernel)) ggX6_halves_X6_layPlot
set_option maxRecDepth 20000 in
theorem ggX6_halves_X6_wide : GoodIn wsX6_halves wsX6_wide := goodIn_r _ [13] (by decide +kernel) (by decide +kernel)
set_option maxRecDepth 20000 in
theorem gX6_halves_X6_wide : GoodIn wsX6_halves (va_wsS RX6 49 yX6_wide wsX6_wide) := goodIn_app (goodIn_of _ (by decide +kernel)) ggX6_halves_X6_wide
set_option maxRecDepth 20000 in
theorem ggX6_halves_X6_high : GoodIn wsX6_halves wsX6_high := goodIn_r _ [16] (by decide +kernel) (by decide +kernel)
set_option maxRecDepth 20000 in
theorem gX6_halves_X6_high : GoodIn wsX6_halves (va_wsS RX6 53 yX6_high wsX6_high) := goodIn_app (goodIn_of _ (by decide +kernel)) ggX6_halves_X6_high
theorem dX6_halves_0 : decode cX6_halves 0 = .ok (.aload_n 0, 1) := by decide +kernel
theorem dX6_halves_1 : decode cX6_halves 1 = .ok (.iload_n 1, 1) := by decide +kernel
theorem dX6_halves_2 : decode cX6_halves 2 = .ok (.iconst 0, 1) := by decide +kernel
theorem dX6_halves_3 : decode cX6_halves 3 = .ok (.invokevirtual 46, 3) := by decide +kernel
theorem dX6_halves_6 : decode cX6_halves 6 = .ok (.iconst 1, 1) := by decide +kernel
theorem dX6_halves_7 : decode cX6_halves 7 = .ok (.iadd, 1) := by decide +kernel
theorem dX6_halves_8 : decode cX6_halves 8 = .ok (.istore_n 2, 1) := by decide +kernel
theorem dX6_halves_9 : decode cX6_halves 9 = .ok (.aload_n 0, 1) := by decide +kernel
theorem dX6_halves_10 : decode cX6_halves 10 = .ok (.iload_n 1, 1) := by decide +kernel
theorem dX6_halves_11 : decode cX6_halves 11 = .ok (.iconst 1, 1) := by decide +kernel
theorem dX6_halves_12 : decode cX6_halves 12 = .ok (.invokevirtual 46, 3) := by decide +kernel
theorem dX6_halves_15 : decode cX6_halves 15 = .ok (.istore_n 3, 1) := by decide +kernel
theorem dX6_halves_16 : decode cX6_halves 16 = .ok (.aload_n 0, 1) := by decide +kernel
theorem dX6_halves_17 : decode cX6_halves 17 = .ok (.iload_n 1, 1) := by decide +kernel
theorem dX6_halves_18 : decode cX6_halves 18 = .ok (.iconst 2, 1) := by decide +kernel
theorem dX6_halves_19 : decode cX6_halves 19 = .ok (.invokevirtual 46, 3) := by decide +kernel
theorem dX6_halves_22 : decode cX6_halves 22 = .ok (.istore 4, 2) := by decide +kernel
theorem dX6_halves_24 : decode cX6_halves 24 = .ok (.iload_n 2, 1) := by decide +kernel
theorem dX6_halves_25 : decode cX6_halves 25 = .ok (.iconst 2, 1) := by decide +kernel
theorem dX6_halves_26 : decode cX6_halves 26 = .ok (.irem, 1) := by decide +kernel
theorem dX6_halves_27 : decode cX6_halves 27 = .ok (.iconst 1, 1) := by decide +kernel
theorem dX6_halves_28 : decode cX6_halves 28 = .ok (.if_icmp .ne 7, 3) := by decide +kernel
theorem dX6_halves_31 : decode cX6_halves 31 = .ok (.iconst 1, 1) := by decide +kernel
theorem dX6_halves_32 : decode cX6_halves 32 = .ok (.goto 4, 3) := by decide +kernel
theorem dX6_halves_35 : decode cX6_halves 35 = .ok (.iconst 0, 1) := by decide +kernel
theorem dX6_halves_36 : decode cX6_halves 36 = .ok (.istore 5, 2) := by decide +kernel
theorem dX6_halves_38 : decode cX6_halves 38 = .ok (.aload_n 0, 1) := by decide +kernel
theorem dX6_halves_39 : decode cX6_halves 39 = .ok (.iload_n 1, 1) := by decide +kernel
theorem dX6_halves_40 : decode cX6_halves 40 = .ok (.iload_n 2, 1) := by decide +kernel
theorem dX6_halves_41 : decode cX6_halves 41 = .ok (.iload_n 3, 1) := by decide +kernel
theorem dX6_halves_42 : decode cX6_halves 42 = .ok (.iload 4, 2) := by decide +kernel
theorem dX6_halves_44 : decode cX6_halves 44 = .ok (.aload_n 0, 1) := by decide +kernel
theorem dX6_halves_45 : decode cX6_halves 45 = .ok (.iload_n 1, 1) := by decide +kernel
theorem dX6_halves_46 : decode cX6_halves 46 = .ok (.iconst 3, 1) := by decide +kernel
theorem dX6_halves_47 : decode cX6_halves 47 = .ok (.invokevirtual 46, 3) := by decide +kernel
theorem dX6_halves_50 : decode cX6_halves 50 = .ok (.invokevirtual 69, 3) := by decide +kernel
theorem dX6_halves_53 : decode cX6_halves 53 = .ok (.aload_n 0, 1) := by decide +kernel
theorem dX6_halves_54 : decode cX6_halves 54 = .ok (.aload_n 0, 1) := by decide +kernel
theorem dX6_halves_55 : decode cX6_halves 55 = .ok (.getfield 7, 3) := by decide +kernel
theorem dX6_halves_58 : decode cX6_halves 58 = .ok (.iconst 1, 1) := by decide +kernel
theorem dX6_halves_59 : decode cX6_halves 59 = .ok (.iaload, 1) := by decide +kernel
theorem dX6_halves_60 : decode cX6_halves 60 = .ok (.iload_n 2, 1) := by decide +kernel
theorem dX6_halves_61 : decode cX6_halves 61 = .ok (.iload 5, 2) := by decide +kernel
theorem dX6_halves_63 : decode cX6_halves 63 = .ok (.ifCond .eq 12, 3) := by decide +kernel
theorem dX6_halves_66 : decode cX6_halves 66 = .ok (.iload_n 3, 1) := by decide +kernel
theorem dX6_halves_67 : decode cX6_halves 67 = .ok (.iload_n 2, 1) := by decide +kernel
theorem dX6_halves_68 : decode cX6_halves 68 = .ok (.invokestatic 49, 3) := by decide +kernel
theorem dX6_halves_71 : decode cX6_halves 71 = .ok (.iadd, 1) := by decide +kernel
theorem dX6_halves_72 : decode cX6_halves 72 = .ok (.goto 4, 3) := by decide +kernel
theorem dX6_halves_75 : decode cX6_halves 75 = .ok (.iload_n 3, 1) := by decide +kernel
theorem dX6_halves_76 : decode cX6_halves 76 = .ok (.iload 5, 2) := by decide +kernel
theorem dX6_halves_78 : decode cX6_halves 78 = .ok (.ifCond .eq 8, 3) := by decide +kernel
theorem dX6_halves_81 : decode cX6_halves 81 = .ok (.iload 4, 2) := by decide +kernel
theorem dX6_halves_83 : decode cX6_halves 83 = .ok (.goto 10, 3) := by decide +kernel
theorem dX6_halves_86 : decode cX6_halves 86 = .ok (.iload 4, 2) := by decide +kernel
theorem dX6_halves_88 : decode cX6_halves 88 = .ok (.iload_n 2, 1) := by decide +kernel
theorem dX6_halves_89 : decode cX6_halves 89 = .ok (.invokestatic 53, 3) := by decide +kernel
theorem dX6_halves_92 : decode cX6_halves 92 = .ok (.iadd, 1) := by decide +kernel
theorem dX6_halves_93 : decode cX6_halves 93 = .ok (.aload_n 0, 1) := by decide +kernel
theorem dX6_halves_94 : decode cX6_halves 94 = .ok (.iload_n 1, 1) := by decide +kernel
theorem dX6_halves_95 : decode cX6_halves 95 = .ok (.iconst 3, 1) := by decide +kernel
theorem dX6_halves_96 : decode cX6_halves 96 = .ok (.invokevirtual 46, 3) := by decide +kernel
theorem dX6_halves_99 : decode cX6_halves 99 = .ok (.invokevirtual 69, 3) := by decide +kernel
theorem dX6_halves_102 : decode cX6_halves 102 = .ok (.aload_n 0, 1) := by decide +kernel
theorem dX6_halves_103 : decode cX6_halves 103 = .ok (.getfield 7, 3) := by decide +kernel
theorem dX6_halves_106 : decode cX6_halves 106 = .ok (.iconst 1, 1) := by decide +kernel
theorem dX6_halves_107 : decode cX6_halves 107 = .ok (.dup2, 1) := by decide +kernel
theorem dX6_halves_108 : decode cX6_halves 108 = .ok (.iaload, 1) := by decide +kernel
theorem dX6_halves_109 : decode cX6_halves 109 = .ok (.iconst 1, 1) := by decide +kernel
theorem dX6_halves_110 : decode cX6_halves 110 = .ok (.iadd, 1) := by decide +kernel
theorem dX6_halves_111 : decode cX6_halves 111 = .ok (.iastore, 1) := by decide +kernel
theorem dX6_halves_112 : decode cX6_halves 112 = .ok (.aload_n 0, 1) := by decide +kernel
theorem dX6_halves_113 : decode cX6_halves 113 = .ok (.getfield 7, 3) := by decide +kernel
theorem dX6_halves_116 : decode cX6_halves 116 = .ok (.iconst 3, 1) := by decide +kernel
theorem dX6_halves_117 : decode cX6_halves 117 = .ok (.dup2, 1) := by decide +kernel
theorem dX6_halves_118 : decode cX6_halves 118 = .ok (.iaload, 1) := by decide +kernel
theorem dX6_halves_119 : decode cX6_halves 119 = .ok (.iconst 1, 1) := by decide +kernel
theorem dX6_halves_120 : decode cX6_halves 120 = .ok (.iadd, 1) := by decide +kernel
theorem dX6_halves_121 : decode cX6_halves 121 = .ok (.iastore, 1) := by decide +kernel
theorem dX6_halves_122 : decode cX6_halves 122 = .ok (.return_, 1) := by decide +kernel
set_option maxRecDepth 20000 in
theorem ggX6_otherHalf_X6_ofPlot : GoodIn wsX6_otherHalf wsX6_ofPlot := goodIn_r _ [6, 1, 13, 14, 15, 16, 17, 18, 19, 20, 21, 22, 23, 24, 25, 26] (by decide +kernel) (by decide +kernel)
set_option maxRecDepth 20000 in
theorem gX6_otherHalf_X6_ofPlot : GoodIn wsX6_otherHalf (wsV RX6 46 RX6 yX6_ofPlot wsX6_ofPlot) := goodIn_app (goodIn_of _ (by decide +kernel)) ggX6_otherHalf_X6_ofPlot
set_option maxRecDepth 20000 in
theorem ggX6_otherHalf_X6_wide : GoodIn wsX6_otherHalf wsX6_wide := goodIn_r _ [9] (by decide +kernel) (by decide +kernel)
set_option maxRecDepth 20000 in
theorem gX6_otherHalf_X6_wide : GoodIn wsX6_otherHalf (va_wsS RX6 49 yX6_wide wsX6_wide) := goodIn_app (goodIn_of _ (by decide +kernel)) ggX6_otherHalf_X6_wide
set_option maxRecDepth 20000 in
theorem ggX6_otherHalf_X6_high : GoodIn wsX6_otherHalf wsX6_high := goodIn_r _ [12] (by decide +kernel) (by decide +kernel)
set_option maxRecDepth 20000 in
theorem gX6_otherHalf_X6_high : GoodIn wsX6_otherHalf (va_wsS RX6 53 yX6_high wsX6_high) := goodIn_app (goodIn_of _ (by decide +kernel)) ggX6_otherHalf_X6_high
theorem dX6_otherHalf_0 : decode cX6_otherHalf 0 = .ok (.aload_n 0, 1) := by decide +kernel
theorem dX6_otherHalf_1 : decode cX6_otherHalf 1 = .ok (.iload_n 1, 1) := by decide +kernel
theorem dX6_otherHalf_2 : decode cX6_otherHalf 2 = .ok (.iconst 0, 1) := by decide +kernel
theorem dX6_otherHalf_3 : decode cX6_otherHalf 3 = .ok (.invokevirtual 46, 3) := by decide +kernel
theorem dX6_otherHalf_6 : decode cX6_otherHalf 6 = .ok (.istore_n 2, 1) := by decide +kernel
theorem dX6_otherHalf_7 : decode cX6_otherHalf 7 = .ok (.iload_n 2, 1) := by decide +kernel
theorem dX6_otherHalf_8 : decode cX6_otherHalf 8 = .ok (.ifCond .ne 6, 3) := by decide +kernel
theorem dX6_otherHalf_11 : decode cX6_otherHalf 11 = .ok (.bipush (-5), 2) := by decide +kernel
theorem dX6_otherHalf_13 : decode cX6_otherHalf 13 = .ok (.ireturn, 1) := by decide +kernel
theorem dX6_otherHalf_14 : decode cX6_otherHalf 14 = .ok (.iload_n 2, 1) := by decide +kernel
theorem dX6_otherHalf_15 : decode cX6_otherHalf 15 = .ok (.iconst 2, 1) := by decide +kernel
theorem dX6_otherHalf_16 : decode cX6_otherHalf 16 = .ok (.irem, 1) := by decide +kernel
theorem dX6_otherHalf_17 : decode cX6_otherHalf 17 = .ok (.iconst 1, 1) := by decide +kernel
theorem dX6_otherHalf_18 : decode cX6_otherHalf 18 = .ok (.if_icmp .ne 17, 3) := by decide +kernel
theorem dX6_otherHalf_21 : decode cX6_otherHalf 21 = .ok (.aload_n 0, 1) := by decide +kernel
theorem dX6_otherHalf_22 : decode cX6_otherHalf 22 = .ok (.iload_n 1, 1) := by decide +kernel
theorem dX6_otherHalf_23 : decode cX6_otherHalf 23 = .ok (.iconst 1, 1) := by decide +kernel
theorem dX6_otherHalf_24 : decode cX6_otherHalf 24 = .ok (.invokevirtual 46, 3) := by decide +kernel
theorem dX6_otherHalf_27 : decode cX6_otherHalf 27 = .ok (.iload_n 2, 1) := by decide +kernel
theorem dX6_otherHalf_28 : decode cX6_otherHalf 28 = .ok (.invokestatic 49, 3) := by decide +kernel
theorem dX6_otherHalf_31 : decode cX6_otherHalf 31 = .ok (.ixor, 1) := by decide +kernel
theorem dX6_otherHalf_32 : decode cX6_otherHalf 32 = .ok (.goto 9, 3) := by decide +kernel
theorem dX6_otherHalf_35 : decode cX6_otherHalf 35 = .ok (.aload_n 0, 1) := by decide +kernel
theorem dX6_otherHalf_36 : decode cX6_otherHalf 36 = .ok (.iload_n 1, 1) := by decide +kernel
theorem dX6_otherHalf_37 : decode cX6_otherHalf 37 = .ok (.iconst 1, 1) := by decide +kernel
theorem dX6_otherHalf_38 : decode cX6_otherHalf 38 = .ok (.invokevirtual 46, 3) := by decide +kernel
theorem dX6_otherHalf_41 : decode cX6_otherHalf 41 = .ok (.istore_n 3, 1) := by decide +kernel
theorem dX6_otherHalf_42 : decode cX6_otherHalf 42 = .ok (.iload_n 2, 1) := by decide +kernel
theorem dX6_otherHalf_43 : decode cX6_otherHalf 43 = .ok (.iconst 2, 1) := by decide +kernel
theorem dX6_otherHalf_44 : decode cX6_otherHalf 44 = .ok (.irem, 1) := by decide +kernel
theorem dX6_otherHalf_45 : decode cX6_otherHalf 45 = .ok (.iconst 1, 1) := by decide +kernel
theorem dX6_otherHalf_46 : decode cX6_otherHalf 46 = .ok (.if_icmp .ne 12, 3) := by decide +kernel
theorem dX6_otherHalf_49 : decode cX6_otherHalf 49 = .ok (.aload_n 0, 1) := by decide +kernel
theorem dX6_otherHalf_50 : decode cX6_otherHalf 50 = .ok (.iload_n 1, 1) := by decide +kernel
theorem dX6_otherHalf_51 : decode cX6_otherHalf 51 = .ok (.iconst 2, 1) := by decide +kernel
theorem dX6_otherHalf_52 : decode cX6_otherHalf 52 = .ok (.invokevirtual 46, 3) := by decide +kernel
theorem dX6_otherHalf_55 : decode cX6_otherHalf 55 = .ok (.goto 14, 3) := by decide +kernel
theorem dX6_otherHalf_58 : decode cX6_otherHalf 58 = .ok (.aload_n 0, 1) := by decide +kernel
theorem dX6_otherHalf_59 : decode cX6_otherHalf 59 = .ok (.iload_n 1, 1) := by decide +kernel
theorem dX6_otherHalf_60 : decode cX6_otherHalf 60 = .ok (.iconst 2, 1) := by decide +kernel
theorem dX6_otherHalf_61 : decode cX6_otherHalf 61 = .ok (.invokevirtual 46, 3) := by decide +kernel
theorem dX6_otherHalf_64 : decode cX6_otherHalf 64 = .ok (.iload_n 2, 1) := by decide +kernel
theorem dX6_otherHalf_65 : decode cX6_otherHalf 65 = .ok (.invokestatic 53, 3) := by decide +kernel
theorem dX6_otherHalf_68 : decode cX6_otherHalf 68 = .ok (.ixor, 1) := by decide +kernel
theorem dX6_otherHalf_69 : decode cX6_otherHalf 69 = .ok (.istore 4, 2) := by decide +kernel
theorem dX6_otherHalf_71 : decode cX6_otherHalf 71 = .ok (.iconst 0, 1) := by decide +kernel
theorem dX6_otherHalf_72 : decode cX6_otherHalf 72 = .ok (.istore 5, 2) := by decide +kernel
theorem dX6_otherHalf_74 : decode cX6_otherHalf 74 = .ok (.iload 5, 2) := by decide +kernel
theorem dX6_otherHalf_76 : decode cX6_otherHalf 76 = .ok (.aload_n 0, 1) := by decide +kernel
theorem dX6_otherHalf_77 : decode cX6_otherHalf 77 = .ok (.getfield 7, 3) := by decide +kernel
theorem dX6_otherHalf_80 : decode cX6_otherHalf 80 = .ok (.iconst 1, 1) := by decide +kernel
theorem dX6_otherHalf_81 : decode cX6_otherHalf 81 = .ok (.iaload, 1) := by decide +kernel
theorem dX6_otherHalf_82 : decode cX6_otherHalf 82 = .ok (.if_icmp .ge 46, 3) := by decide +kernel
theorem dX6_otherHalf_85 : decode cX6_otherHalf 85 = .ok (.aload_n 0, 1) := by decide +kernel
theorem dX6_otherHalf_86 : decode cX6_otherHalf 86 = .ok (.iload 5, 2) := by decide +kernel
theorem dX6_otherHalf_88 : decode cX6_otherHalf 88 = .ok (.iconst 0, 1) := by decide +kernel
theorem dX6_otherHalf_89 : decode cX6_otherHalf 89 = .ok (.invokevirtual 46, 3) := by decide +kernel
theorem dX6_otherHalf_92 : decode cX6_otherHalf 92 = .ok (.iload_n 2, 1) := by decide +kernel
theorem dX6_otherHalf_93 : decode cX6_otherHalf 93 = .ok (.if_icmp .ne 29, 3) := by decide +kernel
theorem dX6_otherHalf_96 : decode cX6_otherHalf 96 = .ok (.aload_n 0, 1) := by decide +kernel
theorem dX6_otherHalf_97 : decode cX6_otherHalf 97 = .ok (.iload 5, 2) := by decide +kernel
theorem dX6_otherHalf_99 : decode cX6_otherHalf 99 = .ok (.iconst 1, 1) := by decide +kernel
theorem dX6_otherHalf_100 : decode cX6_otherHalf 100 = .ok (.invokevirtual 46, 3) := by decide +kernel
theorem dX6_otherHalf_103 : decode cX6_otherHalf 103 = .ok (.iload_n 3, 1) := by decide +kernel
theorem dX6_otherHalf_104 : decode cX6_otherHalf 104 = .ok (.if_icmp .ne 18, 3) := by decide +kernel
theorem dX6_otherHalf_107 : decode cX6_otherHalf 107 = .ok (.aload_n 0, 1) := by decide +kernel
theorem dX6_otherHalf_108 : decode cX6_otherHalf 108 = .ok (.iload 5, 2) := by decide +kernel
theorem dX6_otherHalf_110 : decode cX6_otherHalf 110 = .ok (.iconst 2, 1) := by decide +kernel
theorem dX6_otherHalf_111 : decode cX6_otherHalf 111 = .ok (.invokevirtual 46, 3) := by decide +kernel
theorem dX6_otherHalf_114 : decode cX6_otherHalf 114 = .ok (.iload 4, 2) := by decide +kernel
theorem dX6_otherHalf_116 : decode cX6_otherHalf 116 = .ok (.if_icmp .ne 6, 3) := by decide +kernel
theorem dX6_otherHalf_119 : decode cX6_otherHalf 119 = .ok (.iload 5, 2) := by decide +kernel
theorem dX6_otherHalf_121 : decode cX6_otherHalf 121 = .ok (.ireturn, 1) := by decide +kernel
theorem dX6_otherHalf_122 : decode cX6_otherHalf 122 = .ok (.iinc 5 1, 3) := by decide +kernel
theorem dX6_otherHalf_125 : decode cX6_otherHalf 125 = .ok (.goto (-51), 3) := by decide +kernel
theorem dX6_otherHalf_128 : decode cX6_otherHalf 128 = .ok (.bipush (-5), 2) := by decide +kernel
theorem dX6_otherHalf_130 : decode cX6_otherHalf 130 = .ok (.ireturn, 1) := by decide +kernel
set_option maxRecDepth 20000 in
theorem ggX6_joins_X6_isAhead : GoodIn wsX6_joins wsX6_isAhead := goodIn_r _ [6, 7, 8, 9, 5, 10, 1, 15, 16, 17, 18, 19, 20, 21, 22, 23, 24, 25, 26, 27, 28] (by decide +kernel) (by decide +kernel)
set_option maxRecDepth 20000 in
theorem gX6_joins_X6_isAhead : GoodIn wsX6_joins (wsV RX6 73 RX6 yX6_isAhead wsX6_isAhead) := goodIn_app (goodIn_of _ (by decide +kernel)) ggX6_joins_X6_isAhead
set_option maxRecDepth 20000 in
theorem ggX6_joins_X6_ofPlot : GoodIn wsX6_joins wsX6_ofPlot := goodIn_r _ [10, 1, 15, 16, 17, 18, 19, 20, 21, 22, 23, 24, 25, 26, 27, 28] (by decide +kernel) (by decide +kernel)
set_option maxRecDepth 20000 in
theorem gX6_joins_X6_ofPlot : GoodIn wsX6_joins (wsV RX6 46 RX6 yX6_ofPlot wsX6_ofPlot) := goodIn_app (goodIn_of _ (by decide +kernel)) ggX6_joins_X6_ofPlot
set_option maxRecDepth 20000 in
theorem ggX6_joins_X6_layPlot : GoodIn wsX6_joins wsX6_layPlot := goodIn_r _ [14, 1, 15, 16, 17, 18, 19, 20, 21, 22, 23, 24, 25, 26, 27, 28] (by decide +kernel) (by decide +kernel)
set_option maxRecDepth 20000 in
theorem gX6_joins_X6_layPlot : GoodIn wsX6_joins (wsV RX6 69 RX6 yX6_layPlot wsX6_layPlot) := goodIn_app (goodIn_of _ (by decide +kernel)) ggX6_joins_X6_layPlot
theorem dX6_joins_0 : decode cX6_joins 0 = .ok (.aload_n 0, 1) := by decide +kernel
theorem dX6_joins_1 : decode cX6_joins 1 = .ok (.iload_n 1, 1) := by decide +kernel
theorem dX6_joins_2 : decode cX6_joins 2 = .ok (.iload_n 2, 1) := by decide +kernel
theorem dX6_joins_3 : decode cX6_joins 3 = .ok (.invokevirtual 73, 3) := by decide +kernel
theorem dX6_joins_6 : decode cX6_joins 6 = .ok (.ifCond .eq 7, 3) := by decide +kernel
theorem dX6_joins_9 : decode cX6_joins 9 = .ok (.iload_n 1, 1) := by decide +kernel
theorem dX6_joins_10 : decode cX6_joins 10 = .ok (.goto 4, 3) := by decide +kernel
theorem dX6_joins_13 : decode cX6_joins 13 = .ok (.iload_n 2, 1) := by decide +kernel
theorem dX6_joins_14 : decode cX6_joins 14 = .ok (.istore 4, 2) := by decide +kernel
theorem dX6_joins_16 : decode cX6_joins 16 = .ok (.iload 4, 2) := by decide +kernel
theorem dX6_joins_18 : decode cX6_joins 18 = .ok (.iload_n 1, 1) := by decide +kernel
theorem dX6_joins_19 : decode cX6_joins 19 = .ok (.if_icmp .ne 7, 3) := by decide +kernel
theorem dX6_joins_22 : decode cX6_joins 22 = .ok (.iload_n 2, 1) := by decide +kernel
theorem dX6_joins_23 : decode cX6_joins 23 = .ok (.goto 4, 3) := by decide +kernel
theorem dX6_joins_26 : decode cX6_joins 26 = .ok (.iload_n 1, 1) := by decide +kernel
theorem dX6_joins_27 : decode cX6_joins 27 = .ok (.istore 5, 2) := by decide +kernel
theorem dX6_joins_29 : decode cX6_joins 29 = .ok (.aload_n 0, 1) := by decide +kernel
theorem dX6_joins_30 : decode cX6_joins 30 = .ok (.iload 4, 2) := by decide +kernel
theorem dX6_joins_32 : decode cX6_joins 32 = .ok (.aload_n 0, 1) := by decide +kernel
theorem dX6_joins_33 : decode cX6_joins 33 = .ok (.iload 4, 2) := by decide +kernel
theorem dX6_joins_35 : decode cX6_joins 35 = .ok (.iconst 0, 1) := by decide +kernel
theorem dX6_joins_36 : decode cX6_joins 36 = .ok (.invokevirtual 46, 3) := by decide +kernel
theorem dX6_joins_39 : decode cX6_joins 39 = .ok (.iconst 1, 1) := by decide +kernel
theorem dX6_joins_40 : decode cX6_joins 40 = .ok (.isub, 1) := by decide +kernel
theorem dX6_joins_41 : decode cX6_joins 41 = .ok (.aload_n 0, 1) := by decide +kernel
theorem dX6_joins_42 : decode cX6_joins 42 = .ok (.iload 4, 2) := by decide +kernel
theorem dX6_joins_44 : decode cX6_joins 44 = .ok (.iconst 1, 1) := by decide +kernel
theorem dX6_joins_45 : decode cX6_joins 45 = .ok (.invokevirtual 46, 3) := by decide +kernel
theorem dX6_joins_48 : decode cX6_joins 48 = .ok (.aload_n 0, 1) := by decide +kernel
theorem dX6_joins_49 : decode cX6_joins 49 = .ok (.iload 4, 2) := by decide +kernel
theorem dX6_joins_51 : decode cX6_joins 51 = .ok (.iconst 2, 1) := by decide +kernel
theorem dX6_joins_52 : decode cX6_joins 52 = .ok (.invokevirtual 46, 3) := by decide +kernel
theorem dX6_joins_55 : decode cX6_joins 55 = .ok (.iload_n 3, 1) := by decide +kernel
theorem dX6_joins_56 : decode cX6_joins 56 = .ok (.invokevirtual 69, 3) := by decide +kernel
theorem dX6_joins_59 : decode cX6_joins 59 = .ok (.aload_n 0, 1) := by decide +kernel
theorem dX6_joins_60 : decode cX6_joins 60 = .ok (.getfield 7, 3) := by decide +kernel
theorem dX6_joins_63 : decode cX6_joins 63 = .ok (.iconst 1, 1) := by decide +kernel
theorem dX6_joins_64 : decode cX6_joins 64 = .ok (.dup2, 1) := by decide +kernel
theorem dX6_joins_65 : decode cX6_joins 65 = .ok (.iaload, 1) := by decide +kernel
theorem dX6_joins_66 : decode cX6_joins 66 = .ok (.iconst 1, 1) := by decide +kernel
theorem dX6_joins_67 : decode cX6_joins 67 = .ok (.isub, 1) := by decide +kernel
theorem dX6_joins_68 : decode cX6_joins 68 = .ok (.iastore, 1) := by decide +kernel
theorem dX6_joins_69 : decode cX6_joins 69 = .ok (.aload_n 0, 1) := by decide +kernel
theorem dX6_joins_70 : decode cX6_joins 70 = .ok (.getfield 7, 3) := by decide +kernel
theorem dX6_joins_73 : decode cX6_joins 73 = .ok (.iconst 1, 1) := by decide +kernel
theorem dX6_joins_74 : decode cX6_joins 74 = .ok (.iaload, 1) := by decide +kernel
theorem dX6_joins_75 : decode cX6_joins 75 = .ok (.istore 6, 2) := by decide +kernel
theorem dX6_joins_77 : decode cX6_joins 77 = .ok (.aload_n 0, 1) := by decide +kernel
theorem dX6_joins_78 : decode cX6_joins 78 = .ok (.iload 5, 2) := by decide +kernel
theorem dX6_joins_80 : decode cX6_joins 80 = .ok (.aload_n 0, 1) := by decide +kernel
theorem dX6_joins_81 : decode cX6_joins 81 = .ok (.iload 6, 2) := by decide +kernel
theorem dX6_joins_83 : decode cX6_joins 83 = .ok (.iconst 0, 1) := by decide +kernel
theorem dX6_joins_84 : decode cX6_joins 84 = .ok (.invokevirtual 46, 3) := by decide +kernel
theorem dX6_joins_87 : decode cX6_joins 87 = .ok (.aload_n 0, 1) := by decide +kernel
theorem dX6_joins_88 : decode cX6_joins 88 = .ok (.iload 6, 2) := by decide +kernel
theorem dX6_joins_90 : decode cX6_joins 90 = .ok (.iconst 1, 1) := by decide +kernel
theorem dX6_joins_91 : decode cX6_joins 91 = .ok (.invokevirtual 46, 3) := by decide +kernel
theorem dX6_joins_94 : decode cX6_joins 94 = .ok (.aload_n 0, 1) := by decide +kernel
theorem dX6_joins_95 : decode cX6_joins 95 = .ok (.iload 6, 2) := by decide +kernel
theorem dX6_joins_97 : decode cX6_joins 97 = .ok (.iconst 2, 1) := by decide +kernel
theorem dX6_joins_98 : decode cX6_joins 98 = .ok (.invokevirtual 46, 3) := by decide +kernel
theorem dX6_joins_101 : decode cX6_joins 101 = .ok (.aload_n 0, 1) := by decide +kernel
theorem dX6_joins_102 : decode cX6_joins 102 = .ok (.iload 6, 2) := by decide +kernel
theorem dX6_joins_104 : decode cX6_joins 104 = .ok (.iconst 3, 1) := by decide +kernel
theorem dX6_joins_105 : decode cX6_joins 105 = .ok (.invokevirtual 46, 3) := by decide +kernel
theorem dX6_joins_108 : decode cX6_joins 108 = .ok (.invokevirtual 69, 3) := by decide +kernel
theorem dX6_joins_111 : decode cX6_joins 111 = .ok (.aload_n 0, 1) := by decide +kernel
theorem dX6_joins_112 : decode cX6_joins 112 = .ok (.iload 6, 2) := by decide +kernel
theorem dX6_joins_114 : decode cX6_joins 114 = .ok (.iconst 0, 1) := by decide +kernel
theorem dX6_joins_115 : decode cX6_joins 115 = .ok (.iconst 0, 1) := by decide +kernel
theorem dX6_joins_116 : decode cX6_joins 116 = .ok (.iconst 0, 1) := by decide +kernel
theorem dX6_joins_117 : decode cX6_joins 117 = .ok (.iconst 0, 1) := by decide +kernel
theorem dX6_joins_118 : decode cX6_joins 118 = .ok (.invokevirtual 69, 3) := by decide +kernel
theorem dX6_joins_121 : decode cX6_joins 121 = .ok (.aload_n 0, 1) := by decide +kernel
theorem dX6_joins_122 : decode cX6_joins 122 = .ok (.getfield 7, 3) := by decide +kernel
theorem dX6_joins_125 : decode cX6_joins 125 = .ok (.iconst 4, 1) := by decide +kernel
theorem dX6_joins_126 : decode cX6_joins 126 = .ok (.dup2, 1) := by decide +kernel
theorem dX6_joins_127 : decode cX6_joins 127 = .ok (.iaload, 1) := by decide +kernel
theorem dX6_joins_128 : decode cX6_joins 128 = .ok (.iconst 1, 1) := by decide +kernel
theorem dX6_joins_129 : decode cX6_joins 129 = .ok (.iadd, 1) := by decide +kernel
theorem dX6_joins_130 : decode cX6_joins 130 = .ok (.iastore, 1) := by decide +kernel
theorem dX6_joins_131 : decode cX6_joins 131 = .ok (.return_, 1) := by decide +kernel
set_option maxRecDepth 20000 in
theorem ggX6_areaOf_X6_ofPlot : GoodIn wsX6_areaOf wsX6_ofPlot := goodIn_r _ [6, 1, 17, 18, 19, 20, 21, 22, 23, 24, 25, 26, 27, 28, 29, 30] (by decide +kernel) (by decide +kernel)
set_option maxRecDepth 20000 in
theorem gX6_areaOf_X6_ofPlot : GoodIn wsX6_areaOf (wsV RX6 46 RX6 yX6_ofPlot wsX6_ofPlot) := goodIn_app (goodIn_of _ (by decide +kernel)) ggX6_areaOf_X6_ofPlot
set_option maxRecDepth 20000 in
theorem ggX6_areaOf_X6_area : GoodIn wsX6_areaOf wsX6_area := goodIn_r _ [10, 2, 3, 4, 5, 6, 1, 11, 12, 13, 14, 15, 16, 17, 18, 19, 20, 21, 22, 23, 24, 25, 26, 27, 28, 29, 30] (by decide +kernel) (by decide +kernel)
set_option maxRecDepth 20000 in
theorem gX6_areaOf_X6_area : GoodIn wsX6_areaOf (wsV RX6 77 RX6 yX6_area wsX6_area) := goodIn_app (goodIn_of _ (by decide +kernel)) ggX6_areaOf_X6_area
theorem dX6_areaOf_0 : decode cX6_areaOf 0 = .ok (.iconst 0, 1) := by decide +kernel
theorem dX6_areaOf_1 : decode cX6_areaOf 1 = .ok (.istore_n 2, 1) := by decide +kernel
theorem dX6_areaOf_2 : decode cX6_areaOf 2 = .ok (.iconst 0, 1) := by decide +kernel
theorem dX6_areaOf_3 : decode cX6_areaOf 3 = .ok (.istore_n 3, 1) := by decide +kernel
theorem dX6_areaOf_4 : decode cX6_areaOf 4 = .ok (.iload_n 3, 1) := by decide +kernel
theorem dX6_areaOf_5 : decode cX6_areaOf 5 = .ok (.aload_n 0, 1) := by decide +kernel
theorem dX6_areaOf_6 : decode cX6_areaOf 6 = .ok (.getfield 7, 3) := by decide +kernel
theorem dX6_areaOf_9 : decode cX6_areaOf 9 = .ok (.iconst 1, 1) := by decide +kernel
theorem dX6_areaOf_10 : decode cX6_areaOf 10 = .ok (.iaload, 1) := by decide +kernel
theorem dX6_areaOf_11 : decode cX6_areaOf 11 = .ok (.if_icmp .ge 33, 3) := by decide +kernel
theorem dX6_areaOf_14 : decode cX6_areaOf 14 = .ok (.iload_n 2, 1) := by decide +kernel
theorem dX6_areaOf_15 : decode cX6_areaOf 15 = .ok (.aload_n 0, 1) := by decide +kernel
theorem dX6_areaOf_16 : decode cX6_areaOf 16 = .ok (.iload_n 3, 1) := by decide +kernel
theorem dX6_areaOf_17 : decode cX6_areaOf 17 = .ok (.iconst 3, 1) := by decide +kernel
theorem dX6_areaOf_18 : decode cX6_areaOf 18 = .ok (.invokevirtual 46, 3) := by decide +kernel
theorem dX6_areaOf_21 : decode cX6_areaOf 21 = .ok (.iload_n 1, 1) := by decide +kernel
theorem dX6_areaOf_22 : decode cX6_areaOf 22 = .ok (.iconst 1, 1) := by decide +kernel
theorem dX6_areaOf_23 : decode cX6_areaOf 23 = .ok (.iadd, 1) := by decide +kernel
theorem dX6_areaOf_24 : decode cX6_areaOf 24 = .ok (.if_icmp .ne 11, 3) := by decide +kernel
theorem dX6_areaOf_27 : decode cX6_areaOf 27 = .ok (.aload_n 0, 1) := by decide +kernel
theorem dX6_areaOf_28 : decode cX6_areaOf 28 = .ok (.iload_n 3, 1) := by decide +kernel
theorem dX6_areaOf_29 : decode cX6_areaOf 29 = .ok (.invokevirtual 77, 3) := by decide +kernel
theorem dX6_areaOf_32 : decode cX6_areaOf 32 = .ok (.goto 4, 3) := by decide +kernel
theorem dX6_areaOf_35 : decode cX6_areaOf 35 = .ok (.iconst 0, 1) := by decide +kernel
theorem dX6_areaOf_36 : decode cX6_areaOf 36 = .ok (.iadd, 1) := by decide +kernel
theorem dX6_areaOf_37 : decode cX6_areaOf 37 = .ok (.istore_n 2, 1) := by decide +kernel
theorem dX6_areaOf_38 : decode cX6_areaOf 38 = .ok (.iinc 3 1, 3) := by decide +kernel
theorem dX6_areaOf_41 : decode cX6_areaOf 41 = .ok (.goto (-37), 3) := by decide +kernel
theorem dX6_areaOf_44 : decode cX6_areaOf 44 = .ok (.iload_n 2, 1) := by decide +kernel
theorem dX6_areaOf_45 : decode cX6_areaOf 45 = .ok (.ireturn, 1) := by decide +kernel
set_option maxRecDepth 20000 in
theorem ggX6_touches_X6_ofPlot : GoodIn wsX6_touches wsX6_ofPlot := goodIn_r _ [6, 1, 28, 29, 30, 31, 32, 33, 34, 35, 36, 37, 38, 39, 40, 41] (by decide +kernel) (by decide +kernel)
set_option maxRecDepth 20000 in
theorem gX6_touches_X6_ofPlot : GoodIn wsX6_touches (wsV RX6 46 RX6 yX6_ofPlot wsX6_ofPlot) := goodIn_app (goodIn_of _ (by decide +kernel)) ggX6_touches_X6_ofPlot
set_option maxRecDepth 20000 in
theorem ggX6_touches_X6_touch : GoodIn wsX6_touches wsX6_touch := goodIn_r _ [10, 11, 12, 13, 5, 14, 2, 3, 4, 6, 1, 15, 16, 17, 18, 19, 20, 21, 22, 23, 24, 25, 26, 27, 28, 29, 30, 31, 32, 33, 34, 35, 36, 37, 38, 39, 40, 41] (by decide +kernel) (by decide +kernel)
set_option maxRecDepth 20000 in
theorem gX6_touches_X6_touch : GoodIn wsX6_touches (wsV RX6 80 RX6 yX6_touch wsX6_touch) := goodIn_app (goodIn_of _ (by decide +kernel)) ggX6_touches_X6_touch
theorem dX6_touches_0 : decode cX6_touches 0 = .ok (.iconst 0, 1) := by decide +kernel
theorem dX6_touches_1 : decode cX6_touches 1 = .ok (.istore_n 3, 1) := by decide +kernel
theorem dX6_touches_2 : decode cX6_touches 2 = .ok (.iconst 0, 1) := by decide +kernel
theorem dX6_touches_3 : decode cX6_touches 3 = .ok (.istore 4, 2) := by decide +kernel
theorem dX6_touches_5 : decode cX6_touches 5 = .ok (.iload 4, 2) := by decide +kernel
theorem dX6_touches_7 : decode cX6_touches 7 = .ok (.aload_n 0, 1) := by decide +kernel
theorem dX6_touches_8 : decode cX6_touches 8 = .ok (.getfield 7, 3) := by decide +kernel
theorem dX6_touches_11 : decode cX6_touches 11 = .ok (.iconst 1, 1) := by decide +kernel
theorem dX6_touches_12 : decode cX6_touches 12 = .ok (.iaload, 1) := by decide +kernel
theorem dX6_touches_13 : decode cX6_touches 13 = .ok (.if_icmp .ge 48, 3) := by decide +kernel
theorem dX6_touches_16 : decode cX6_touches 16 = .ok (.iload_n 3, 1) := by decide +kernel
theorem dX6_touches_17 : decode cX6_touches 17 = .ok (.ifCond .ne 32, 3) := by decide +kernel
theorem dX6_touches_20 : decode cX6_touches 20 = .ok (.iload 4, 2) := by decide +kernel
theorem dX6_touches_22 : decode cX6_touches 22 = .ok (.iload_n 1, 1) := by decide +kernel
theorem dX6_touches_23 : decode cX6_touches 23 = .ok (.if_icmp .eq 30, 3) := by decide +kernel
theorem dX6_touches_26 : decode cX6_touches 26 = .ok (.aload_n 0, 1) := by decide +kernel
theorem dX6_touches_27 : decode cX6_touches 27 = .ok (.iload 4, 2) := by decide +kernel
theorem dX6_touches_29 : decode cX6_touches 29 = .ok (.iconst 3, 1) := by decide +kernel
theorem dX6_touches_30 : decode cX6_touches 30 = .ok (.invokevirtual 46, 3) := by decide +kernel
theorem dX6_touches_33 : decode cX6_touches 33 = .ok (.iload_n 2, 1) := by decide +kernel
theorem dX6_touches_34 : decode cX6_touches 34 = .ok (.iconst 1, 1) := by decide +kernel
theorem dX6_touches_35 : decode cX6_touches 35 = .ok (.iadd, 1) := by decide +kernel
theorem dX6_touches_36 : decode cX6_touches 36 = .ok (.if_icmp .ne 17, 3) := by decide +kernel
theorem dX6_touches_39 : decode cX6_touches 39 = .ok (.aload_n 0, 1) := by decide +kernel
theorem dX6_touches_40 : decode cX6_touches 40 = .ok (.iload_n 1, 1) := by decide +kernel
theorem dX6_touches_41 : decode cX6_touches 41 = .ok (.iload 4, 2) := by decide +kernel
theorem dX6_touches_43 : decode cX6_touches 43 = .ok (.invokevirtual 80, 3) := by decide +kernel
theorem dX6_touches_46 : decode cX6_touches 46 = .ok (.ifCond .eq 7, 3) := by decide +kernel
theorem dX6_touches_49 : decode cX6_touches 49 = .ok (.iconst 1, 1) := by decide +kernel
theorem dX6_touches_50 : decode cX6_touches 50 = .ok (.goto 4, 3) := by decide +kernel
theorem dX6_touches_53 : decode cX6_touches 53 = .ok (.iconst 0, 1) := by decide +kernel
theorem dX6_touches_54 : decode cX6_touches 54 = .ok (.istore_n 3, 1) := by decide +kernel
theorem dX6_touches_55 : decode cX6_touches 55 = .ok (.iinc 4 1, 3) := by decide +kernel
theorem dX6_touches_58 : decode cX6_touches 58 = .ok (.goto (-53), 3) := by decide +kernel
theorem dX6_touches_61 : decode cX6_touches 61 = .ok (.iload_n 3, 1) := by decide +kernel
theorem dX6_touches_62 : decode cX6_touches 62 = .ok (.ireturn, 1) := by decide +kernel
set_option maxRecDepth 20000 in
theorem ggX6_onField_X6_ofCamper : GoodIn wsX6_onField wsX6_ofCamper := goodIn_r _ [5, 6, 7, 8, 9, 10, 11, 12, 13, 14, 15, 16, 17, 18, 19, 20] (by decide +kernel) (by decide +kernel)
set_option maxRecDepth 20000 in
theorem gX6_onField_X6_ofCamper : GoodIn wsX6_onField (wsV RX6 39 RX6 yX6_ofCamper wsX6_ofCamper) := goodIn_app (goodIn_of _ (by decide +kernel)) ggX6_onField_X6_ofCamper
theorem dX6_onField_0 : decode cX6_onField 0 = .ok (.iconst 0, 1) := by decide +kernel
theorem dX6_onField_1 : decode cX6_onField 1 = .ok (.istore_n 1, 1) := by decide +kernel
theorem dX6_onField_2 : decode cX6_onField 2 = .ok (.iconst 0, 1) := by decide +kernel
theorem dX6_onField_3 : decode cX6_onField 3 = .ok (.istore_n 2, 1) := by decide +kernel
theorem dX6_onField_4 : decode cX6_onField 4 = .ok (.iload_n 2, 1) := by decide +kernel
theorem dX6_onField_5 : decode cX6_onField 5 = .ok (.bipush 16, 2) := by decide +kernel
theorem dX6_onField_7 : decode cX6_onField 7 = .ok (.if_icmp .ge 18, 3) := by decide +kernel
theorem dX6_onField_10 : decode cX6_onField 10 = .ok (.iload_n 1, 1) := by decide +kernel
theorem dX6_onField_11 : decode cX6_onField 11 = .ok (.aload_n 0, 1) := by decide +kernel
theorem dX6_onField_12 : decode cX6_onField 12 = .ok (.iload_n 2, 1) := by decide +kernel
theorem dX6_onField_13 : decode cX6_onField 13 = .ok (.iconst 0, 1) := by decide +kernel
theorem dX6_onField_14 : decode cX6_onField 14 = .ok (.invokevirtual 39, 3) := by decide +kernel
theorem dX6_onField_17 : decode cX6_onField 17 = .ok (.iadd, 1) := by decide +kernel
theorem dX6_onField_18 : decode cX6_onField 18 = .ok (.istore_n 1, 1) := by decide +kernel
theorem dX6_onField_19 : decode cX6_onField 19 = .ok (.iinc 2 1, 3) := by decide +kernel
theorem dX6_onField_22 : decode cX6_onField 22 = .ok (.goto (-18), 3) := by decide +kernel
theorem dX6_onField_25 : decode cX6_onField 25 = .ok (.iload_n 1, 1) := by decide +kernel
theorem dX6_onField_26 : decode cX6_onField 26 = .ok (.ireturn, 1) := by decide +kernel
set_option maxRecDepth 20000 in
theorem ggX6_refuses_X6_plotAt : GoodIn wsX6_refuses wsX6_plotAt := goodIn_r _ [6, 7, 8, 9, 5, 10, 11, 12, 13, 14, 1, 15, 16, 17, 18, 19, 20, 21, 22, 23, 24, 25, 26, 27, 28, 29, 30, 31, 36, 37, 38, 39, 40, 41, 42, 43, 44, 45, 46, 47, 48, 49] (by decide +kernel) (by decide +kernel)
set_option maxRecDepth 20000 in
theorem gX6_refuses_X6_plotAt : GoodIn wsX6_refuses (wsV RX6 83 RX6 yX6_plotAt wsX6_plotAt) := goodIn_app (goodIn_of _ (by decide +kernel)) ggX6_refuses_X6_plotAt
set_option maxRecDepth 20000 in
theorem ggX6_refuses_X6_ofPlot : GoodIn wsX6_refuses wsX6_ofPlot := goodIn_r _ [14, 1, 36, 37, 38, 39, 40, 41, 42, 43, 44, 45, 46, 47, 48, 49] (by decide +kernel) (by decide +kernel)
set_option maxRecDepth 20000 in
theorem gX6_refuses_X6_ofPlot : GoodIn wsX6_refuses (wsV RX6 46 RX6 yX6_ofPlot wsX6_ofPlot) := goodIn_app (goodIn_of _ (by decide +kernel)) ggX6_refuses_X6_ofPlot
set_option maxRecDepth 20000 in
theorem ggX6_refuses_X6_ofCamper : GoodIn wsX6_refuses wsX6_ofCamper := goodIn_r _ [35, 1, 36, 37, 38, 39, 40, 41, 42, 43, 44, 45, 46, 47, 48, 49] (by decide +kernel) (by decide +kernel)
set_option maxRecDepth 20000 in
theorem gX6_refuses_X6_ofCamper : GoodIn wsX6_refuses (wsV RX6 39 RX6 yX6_ofCamper wsX6_ofCamper) := goodIn_app (goodIn_of _ (by decide +kernel)) ggX6_refuses_X6_ofCamper
theorem dX6_refuses_0 : decode cX6_refuses 0 = .ok (.aload_n 0, 1) := by decide +kernel
theorem dX6_refuses_1 : decode cX6_refuses 1 = .ok (.getfield 7, 3) := by decide +kernel
theorem dX6_refuses_4 : decode cX6_refuses 4 = .ok (.iconst 0, 1) := by decide +kernel
theorem dX6_refuses_5 : decode cX6_refuses 5 = .ok (.iaload, 1) := by decide +kernel
theorem dX6_refuses_6 : decode cX6_refuses 6 = .ok (.bipush 16, 2) := by decide +kernel
theorem dX6_refuses_8 : decode cX6_refuses 8 = .ok (.if_icmp .ne 6, 3) := by decide +kernel
theorem dX6_refuses_11 : decode cX6_refuses 11 = .ok (.bipush (-3), 2) := by decide +kernel
theorem dX6_refuses_13 : decode cX6_refuses 13 = .ok (.ireturn, 1) := by decide +kernel
theorem dX6_refuses_14 : decode cX6_refuses 14 = .ok (.aload_n 0, 1) := by decide +kernel
theorem dX6_refuses_15 : decode cX6_refuses 15 = .ok (.iload_n 1, 1) := by decide +kernel
theorem dX6_refuses_16 : decode cX6_refuses 16 = .ok (.iload_n 2, 1) := by decide +kernel
theorem dX6_refuses_17 : decode cX6_refuses 17 = .ok (.invokevirtual 83, 3) := by decide +kernel
theorem dX6_refuses_20 : decode cX6_refuses 20 = .ok (.istore_n 3, 1) := by decide +kernel
theorem dX6_refuses_21 : decode cX6_refuses 21 = .ok (.aload_n 0, 1) := by decide +kernel
theorem dX6_refuses_22 : decode cX6_refuses 22 = .ok (.iload_n 3, 1) := by decide +kernel
theorem dX6_refuses_23 : decode cX6_refuses 23 = .ok (.iconst 3, 1) := by decide +kernel
theorem dX6_refuses_24 : decode cX6_refuses 24 = .ok (.invokevirtual 46, 3) := by decide +kernel
theorem dX6_refuses_27 : decode cX6_refuses 27 = .ok (.iconst 1, 1) := by decide +kernel
theorem dX6_refuses_28 : decode cX6_refuses 28 = .ok (.isub, 1) := by decide +kernel
theorem dX6_refuses_29 : decode cX6_refuses 29 = .ok (.istore 4, 2) := by decide +kernel
theorem dX6_refuses_31 : decode cX6_refuses 31 = .ok (.iload 4, 2) := by decide +kernel
theorem dX6_refuses_33 : decode cX6_refuses 33 = .ok (.ifCond .lt 29, 3) := by decide +kernel
theorem dX6_refuses_36 : decode cX6_refuses 36 = .ok (.aload_n 0, 1) := by decide +kernel
theorem dX6_refuses_37 : decode cX6_refuses 37 = .ok (.iload 4, 2) := by decide +kernel
theorem dX6_refuses_39 : decode cX6_refuses 39 = .ok (.iconst 1, 1) := by decide +kernel
theorem dX6_refuses_40 : decode cX6_refuses 40 = .ok (.invokevirtual 39, 3) := by decide +kernel
theorem dX6_refuses_43 : decode cX6_refuses 43 = .ok (.iload_n 1, 1) := by decide +kernel
theorem dX6_refuses_44 : decode cX6_refuses 44 = .ok (.if_icmp .ne 18, 3) := by decide +kernel
theorem dX6_refuses_47 : decode cX6_refuses 47 = .ok (.aload_n 0, 1) := by decide +kernel
theorem dX6_refuses_48 : decode cX6_refuses 48 = .ok (.iload 4, 2) := by decide +kernel
theorem dX6_refuses_50 : decode cX6_refuses 50 = .ok (.iconst 2, 1) := by decide +kernel
theorem dX6_refuses_51 : decode cX6_refuses 51 = .ok (.invokevirtual 39, 3) := by decide +kernel
theorem dX6_refuses_54 : decode cX6_refuses 54 = .ok (.iload_n 2, 1) := by decide +kernel
theorem dX6_refuses_55 : decode cX6_refuses 55 = .ok (.if_icmp .ne 7, 3) := by decide +kernel
theorem dX6_refuses_58 : decode cX6_refuses 58 = .ok (.iconst 1, 1) := by decide +kernel
theorem dX6_refuses_59 : decode cX6_refuses 59 = .ok (.goto 4, 3) := by decide +kernel
theorem dX6_refuses_62 : decode cX6_refuses 62 = .ok (.iconst 0, 1) := by decide +kernel
theorem dX6_refuses_63 : decode cX6_refuses 63 = .ok (.istore 5, 2) := by decide +kernel
theorem dX6_refuses_65 : decode cX6_refuses 65 = .ok (.iload 4, 2) := by decide +kernel
theorem dX6_refuses_67 : decode cX6_refuses 67 = .ok (.ifCond .lt 24, 3) := by decide +kernel
theorem dX6_refuses_70 : decode cX6_refuses 70 = .ok (.iload 5, 2) := by decide +kernel
theorem dX6_refuses_72 : decode cX6_refuses 72 = .ok (.ifCond .ne 14, 3) := by decide +kernel
theorem dX6_refuses_75 : decode cX6_refuses 75 = .ok (.aload_n 0, 1) := by decide +kernel
theorem dX6_refuses_76 : decode cX6_refuses 76 = .ok (.iload_n 3, 1) := by decide +kernel
theorem dX6_refuses_77 : decode cX6_refuses 77 = .ok (.iconst 0, 1) := by decide +kernel
theorem dX6_refuses_78 : decode cX6_refuses 78 = .ok (.invokevirtual 46, 3) := by decide +kernel
theorem dX6_refuses_81 : decode cX6_refuses 81 = .ok (.bipush 12, 2) := by decide +kernel
theorem dX6_refuses_83 : decode cX6_refuses 83 = .ok (.if_icmp .ne 8, 3) := by decide +kernel
theorem dX6_refuses_86 : decode cX6_refuses 86 = .ok (.bipush (-4), 2) := by decide +kernel
theorem dX6_refuses_88 : decode cX6_refuses 88 = .ok (.goto 4, 3) := by decide +kernel
theorem dX6_refuses_91 : decode cX6_refuses 91 = .ok (.iconst 0, 1) := by decide +kernel
theorem dX6_refuses_92 : decode cX6_refuses 92 = .ok (.ireturn, 1) := by decide +kernel
set_option maxRecDepth 20000 in
theorem ggX6_comes_X6_layCamper : GoodIn wsX6_comes wsX6_layCamper := goodIn_r _ [6, 1, 48, 49, 50, 51, 52, 53, 54, 55, 56, 57, 58, 59, 60, 61] (by decide +kernel) (by decide +kernel)
set_option maxRecDepth 20000 in
theorem gX6_comes_X6_layCamper : GoodIn wsX6_comes (wsV RX6 86 RX6 yX6_layCamper wsX6_layCamper) := goodIn_app (goodIn_of _ (by decide +kernel)) ggX6_comes_X6_layCamper
set_option maxRecDepth 20000 in
theorem ggX6_comes_X6_plotAt : GoodIn wsX6_comes wsX6_plotAt := goodIn_r _ [10, 11, 12, 13, 5, 14, 15, 16, 17, 18, 1, 19, 20, 21, 22, 23, 24, 25, 26, 27, 28, 29, 30, 31, 32, 33, 34, 35, 48, 49, 50, 51, 52, 53, 54, 55, 56, 57, 58, 59, 60, 61] (by decide +kernel) (by decide +kernel)
set_option maxRecDepth 20000 in
theorem gX6_comes_X6_plotAt : GoodIn wsX6_comes (wsV RX6 83 RX6 yX6_plotAt wsX6_plotAt) := goodIn_app (goodIn_of _ (by decide +kernel)) ggX6_comes_X6_plotAt
set_option maxRecDepth 20000 in
theorem ggX6_comes_X6_ofPlot : GoodIn wsX6_comes wsX6_ofPlot := goodIn_r _ [18, 1, 48, 49, 50, 51, 52, 53, 54, 55, 56, 57, 58, 59, 60, 61] (by decide +kernel) (by decide +kernel)
set_option maxRecDepth 20000 in
theorem gX6_comes_X6_ofPlot : GoodIn wsX6_comes (wsV RX6 46 RX6 yX6_ofPlot wsX6_ofPlot) := goodIn_app (goodIn_of _ (by decide +kernel)) ggX6_comes_X6_ofPlot
set_option maxRecDepth 20000 in
theorem ggX6_comes_X6_halves : GoodIn wsX6_comes wsX6_halves := goodIn_r _ [39, 1, 15, 16, 17, 5, 18, 40, 41, 42, 43, 23, 24, 25, 33, 34, 35, 48, 49, 50, 51, 52, 53, 54, 55, 56, 57, 58, 59, 60, 61] (by decide +kernel) (by decide +kernel)
set_option maxRecDepth 20000 in
theorem gX6_comes_X6_halves : GoodIn wsX6_comes (wsV RX6 90 RX6 yX6_halves wsX6_halves) := goodIn_app (goodIn_of _ (by decide +kernel)) ggX6_comes_X6_halves
set_option maxRecDepth 20000 in
theorem ggX6_comes_X6_ofCamper : GoodIn wsX6_comes wsX6_ofCamper := goodIn_r _ [47, 1, 48, 49, 50, 51, 52, 53, 54, 55, 56, 57, 58, 59, 60, 61] (by decide +kernel) (by decide +kernel)
set_option maxRecDepth 20000 in
theorem gX6_comes_X6_ofCamper : GoodIn wsX6_comes (wsV RX6 39 RX6 yX6_ofCamper wsX6_ofCamper) := goodIn_app (goodIn_of _ (by decide +kernel)) ggX6_comes_X6_ofCamper
set_option maxRecDepth 20000 in
theorem ggX6_comes_X6_has : GoodIn wsX6_comes wsX6_has := goodIn_r _ [14, 15, 16, 17, 5, 18, 1, 19, 20, 21, 22, 23, 24, 25, 26, 27, 28, 29, 30, 31, 32, 33, 34, 35, 48, 49, 50, 51, 52, 53, 54, 55, 56, 57, 58, 59, 60, 61] (by decide +kernel) (by decide +kernel)
set_option maxRecDepth 20000 in
theorem gX6_comes_X6_has : GoodIn wsX6_comes (wsV RX6 62 RX6 yX6_has wsX6_has) := goodIn_app (goodIn_of _ (by decide +kernel)) ggX6_comes_X6_has
theorem dX6_comes_0 : decode cX6_comes 0 = .ok (.aload_n 0, 1) := by decide +kernel
theorem dX6_comes_1 : decode cX6_comes 1 = .ok (.getfield 7, 3) := by decide +kernel
theorem dX6_comes_4 : decode cX6_comes 4 = .ok (.iconst 0, 1) := by decide +kernel
theorem dX6_comes_5 : decode cX6_comes 5 = .ok (.iaload, 1) := by decide +kernel
theorem dX6_comes_6 : decode cX6_comes 6 = .ok (.istore_n 3, 1) := by decide +kernel
theorem dX6_comes_7 : decode cX6_comes 7 = .ok (.aload_n 0, 1) := by decide +kernel
theorem dX6_comes_8 : decode cX6_comes 8 = .ok (.getfield 7, 3) := by decide +kernel
theorem dX6_comes_11 : decode cX6_comes 11 = .ok (.iconst 0, 1) := by decide +kernel
theorem dX6_comes_12 : decode cX6_comes 12 = .ok (.dup2, 1) := by decide +kernel
theorem dX6_comes_13 : decode cX6_comes 13 = .ok (.iaload, 1) := by decide +kernel
theorem dX6_comes_14 : decode cX6_comes 14 = .ok (.iconst 1, 1) := by decide +kernel
theorem dX6_comes_15 : decode cX6_comes 15 = .ok (.iadd, 1) := by decide +kernel
theorem dX6_comes_16 : decode cX6_comes 16 = .ok (.iastore, 1) := by decide +kernel
theorem dX6_comes_17 : decode cX6_comes 17 = .ok (.aload_n 0, 1) := by decide +kernel
theorem dX6_comes_18 : decode cX6_comes 18 = .ok (.iload_n 3, 1) := by decide +kernel
theorem dX6_comes_19 : decode cX6_comes 19 = .ok (.iconst 0, 1) := by decide +kernel
theorem dX6_comes_20 : decode cX6_comes 20 = .ok (.iconst 1, 1) := by decide +kernel
theorem dX6_comes_21 : decode cX6_comes 21 = .ok (.invokevirtual 86, 3) := by decide +kernel
theorem dX6_comes_24 : decode cX6_comes 24 = .ok (.aload_n 0, 1) := by decide +kernel
theorem dX6_comes_25 : decode cX6_comes 25 = .ok (.iload_n 3, 1) := by decide +kernel
theorem dX6_comes_26 : decode cX6_comes 26 = .ok (.iconst 1, 1) := by decide +kernel
theorem dX6_comes_27 : decode cX6_comes 27 = .ok (.iload_n 1, 1) := by decide +kernel
theorem dX6_comes_28 : decode cX6_comes 28 = .ok (.invokevirtual 86, 3) := by decide +kernel
theorem dX6_comes_31 : decode cX6_comes 31 = .ok (.aload_n 0, 1) := by decide +kernel
theorem dX6_comes_32 : decode cX6_comes 32 = .ok (.iload_n 3, 1) := by decide +kernel
theorem dX6_comes_33 : decode cX6_comes 33 = .ok (.iconst 2, 1) := by decide +kernel
theorem dX6_comes_34 : decode cX6_comes 34 = .ok (.iload_n 2, 1) := by decide +kernel
theorem dX6_comes_35 : decode cX6_comes 35 = .ok (.invokevirtual 86, 3) := by decide +kernel
theorem dX6_comes_38 : decode cX6_comes 38 = .ok (.aload_n 0, 1) := by decide +kernel
theorem dX6_comes_39 : decode cX6_comes 39 = .ok (.iload_n 1, 1) := by decide +kernel
theorem dX6_comes_40 : decode cX6_comes 40 = .ok (.iload_n 2, 1) := by decide +kernel
theorem dX6_comes_41 : decode cX6_comes 41 = .ok (.invokevirtual 83, 3) := by decide +kernel
theorem dX6_comes_44 : decode cX6_comes 44 = .ok (.istore 4, 2) := by decide +kernel
theorem dX6_comes_46 : decode cX6_comes 46 = .ok (.aload_n 0, 1) := by decide +kernel
theorem dX6_comes_47 : decode cX6_comes 47 = .ok (.iload 4, 2) := by decide +kernel
theorem dX6_comes_49 : decode cX6_comes 49 = .ok (.iconst 3, 1) := by decide +kernel
theorem dX6_comes_50 : decode cX6_comes 50 = .ok (.invokevirtual 46, 3) := by decide +kernel
theorem dX6_comes_53 : decode cX6_comes 53 = .ok (.iconst 1, 1) := by decide +kernel
theorem dX6_comes_54 : decode cX6_comes 54 = .ok (.isub, 1) := by decide +kernel
theorem dX6_comes_55 : decode cX6_comes 55 = .ok (.istore 5, 2) := by decide +kernel
theorem dX6_comes_57 : decode cX6_comes 57 = .ok (.iload 5, 2) := by decide +kernel
theorem dX6_comes_59 : decode cX6_comes 59 = .ok (.ifCond .lt 7, 3) := by decide +kernel
theorem dX6_comes_62 : decode cX6_comes 62 = .ok (.iconst 1, 1) := by decide +kernel
theorem dX6_comes_63 : decode cX6_comes 63 = .ok (.goto 4, 3) := by decide +kernel
theorem dX6_comes_66 : decode cX6_comes 66 = .ok (.iconst 0, 1) := by decide +kernel
theorem dX6_comes_67 : decode cX6_comes 67 = .ok (.istore 6, 2) := by decide +kernel
theorem dX6_comes_69 : decode cX6_comes 69 = .ok (.iload 6, 2) := by decide +kernel
theorem dX6_comes_71 : decode cX6_comes 71 = .ok (.ifCond .eq 42, 3) := by decide +kernel
theorem dX6_comes_74 : decode cX6_comes 74 = .ok (.aload_n 0, 1) := by decide +kernel
theorem dX6_comes_75 : decode cX6_comes 75 = .ok (.iload 4, 2) := by decide +kernel
theorem dX6_comes_77 : decode cX6_comes 77 = .ok (.invokevirtual 90, 3) := by decide +kernel
theorem dX6_comes_80 : decode cX6_comes 80 = .ok (.aload_n 0, 1) := by decide +kernel
theorem dX6_comes_81 : decode cX6_comes 81 = .ok (.iload_n 1, 1) := by decide +kernel
theorem dX6_comes_82 : decode cX6_comes 82 = .ok (.iload_n 2, 1) := by decide +kernel
theorem dX6_comes_83 : decode cX6_comes 83 = .ok (.invokevirtual 83, 3) := by decide +kernel
theorem dX6_comes_86 : decode cX6_comes 86 = .ok (.istore 4, 2) := by decide +kernel
theorem dX6_comes_88 : decode cX6_comes 88 = .ok (.aload_n 0, 1) := by decide +kernel
theorem dX6_comes_89 : decode cX6_comes 89 = .ok (.iload 4, 2) := by decide +kernel
theorem dX6_comes_91 : decode cX6_comes 91 = .ok (.aload_n 0, 1) := by decide +kernel
theorem dX6_comes_92 : decode cX6_comes 92 = .ok (.iload 5, 2) := by decide +kernel
theorem dX6_comes_94 : decode cX6_comes 94 = .ok (.iconst 1, 1) := by decide +kernel
theorem dX6_comes_95 : decode cX6_comes 95 = .ok (.invokevirtual 39, 3) := by decide +kernel
theorem dX6_comes_98 : decode cX6_comes 98 = .ok (.aload_n 0, 1) := by decide +kernel
theorem dX6_comes_99 : decode cX6_comes 99 = .ok (.iload 5, 2) := by decide +kernel
theorem dX6_comes_101 : decode cX6_comes 101 = .ok (.iconst 2, 1) := by decide +kernel
theorem dX6_comes_102 : decode cX6_comes 102 = .ok (.invokevirtual 39, 3) := by decide +kernel
theorem dX6_comes_105 : decode cX6_comes 105 = .ok (.invokevirtual 62, 3) := by decide +kernel
theorem dX6_comes_108 : decode cX6_comes 108 = .ok (.istore 6, 2) := by decide +kernel
theorem dX6_comes_110 : decode cX6_comes 110 = .ok (.goto (-41), 3) := by decide +kernel
theorem dX6_comes_113 : decode cX6_comes 113 = .ok (.aload_n 0, 1) := by decide +kernel
theorem dX6_comes_114 : decode cX6_comes 114 = .ok (.getfield 7, 3) := by decide +kernel
theorem dX6_comes_117 : decode cX6_comes 117 = .ok (.bipush 54, 2) := by decide +kernel
theorem dX6_comes_119 : decode cX6_comes 119 = .ok (.iconst 4, 1) := by decide +kernel
theorem dX6_comes_120 : decode cX6_comes 120 = .ok (.iload 4, 2) := by decide +kernel
theorem dX6_comes_122 : decode cX6_comes 122 = .ok (.imul, 1) := by decide +kernel
theorem dX6_comes_123 : decode cX6_comes 123 = .ok (.iadd, 1) := by decide +kernel
theorem dX6_comes_124 : decode cX6_comes 124 = .ok (.iconst 3, 1) := by decide +kernel
theorem dX6_comes_125 : decode cX6_comes 125 = .ok (.iadd, 1) := by decide +kernel
theorem dX6_comes_126 : decode cX6_comes 126 = .ok (.iload_n 3, 1) := by decide +kernel
theorem dX6_comes_127 : decode cX6_comes 127 = .ok (.iconst 1, 1) := by decide +kernel
theorem dX6_comes_128 : decode cX6_comes 128 = .ok (.iadd, 1) := by decide +kernel
theorem dX6_comes_129 : decode cX6_comes 129 = .ok (.iastore, 1) := by decide +kernel
theorem dX6_comes_130 : decode cX6_comes 130 = .ok (.iload_n 3, 1) := by decide +kernel
theorem dX6_comes_131 : decode cX6_comes 131 = .ok (.ireturn, 1) := by decide +kernel
set_option maxRecDepth 20000 in
theorem ggX6_come_X6_isPoint : GoodIn wsX6_come wsX6_isPoint := goodIn_r _ [5, 6, 7, 4, 8] (by decide +kernel) (by decide +kernel)
set_option maxRecDepth 20000 in
theorem gX6_come_X6_isPoint : GoodIn wsX6_come (va_wsS RX6 94 yX6_isPoint wsX6_isPoint) := goodIn_app (goodIn_of _ (by decide +kernel)) ggX6_come_X6_isPoint
set_option maxRecDepth 20000 in
theorem ggX6_come_X6_refuses : GoodIn wsX6_come wsX6_refuses := goodIn_r _ [12, 13, 14, 15, 16, 4, 17, 18, 19, 20, 21, 22, 23, 24, 25, 26, 27, 28, 29, 30, 31, 32, 6, 7, 8, 33, 34, 35, 36, 37, 38, 39, 40, 41, 42, 43, 66, 67, 68, 69, 70, 71, 72, 73, 74, 75, 76, 77, 78, 79] (by decide +kernel) (by decide +kernel)
set_option maxRecDepth 20000 in
theorem gX6_come_X6_refuses : GoodIn wsX6_come (wsV RX6 97 RX6 yX6_refuses wsX6_refuses) := goodIn_app (goodIn_of _ (by decide +kernel)) ggX6_come_X6_refuses
set_option maxRecDepth 20000 in
theorem ggX6_come_X6_records : GoodIn wsX6_come wsX6_records := goodIn_r _ [47, 48, 49, 13, 66, 67, 68, 69, 70, 71, 72, 73, 74, 75, 76, 77, 78, 79] (by decide +kernel) (by decide +kernel)
set_option maxRecDepth 20000 in
theorem gX6_come_X6_records : GoodIn wsX6_come (wsV RX6 100 RX6 yX6_records wsX6_records) := goodIn_app (goodIn_of _ (by decide +kernel)) ggX6_come_X6_records
set_option maxRecDepth 20000 in
theorem ggX6_come_X6_comes : GoodIn wsX6_come wsX6_comes := goodIn_r _ [53, 13, 54, 55, 56, 4, 57, 14, 15, 16, 17, 18, 19, 20, 21, 22, 23, 24, 25, 26, 27, 28, 29, 30, 31, 32, 6, 7, 8, 33, 34, 35, 36, 37, 38, 39, 58, 59, 60, 61, 62, 63, 64, 65, 40, 41, 42, 43, 66, 67, 68, 69, 70, 71, 72, 73, 74, 75, 76, 77, 78, 79] (by decide +kernel) (by decide +kernel)
set_option maxRecDepth 20000 in
theorem gX6_come_X6_comes : GoodIn wsX6_come (wsV RX6 103 RX6 yX6_comes wsX6_comes) := goodIn_app (goodIn_of _ (by decide +kernel)) ggX6_come_X6_comes
theorem dX6_come_0 : decode cX6_come 0 = .ok (.aload_n 0, 1) := by decide +kernel
theorem dX6_come_1 : decode cX6_come 1 = .ok (.iconst 0, 1) := by decide +kernel
theorem dX6_come_2 : decode cX6_come 2 = .ok (.putfield 31, 3) := by decide +kernel
theorem dX6_come_5 : decode cX6_come 5 = .ok (.iload_n 1, 1) := by decide +kernel
theorem dX6_come_6 : decode cX6_come 6 = .ok (.iload_n 2, 1) := by decide +kernel
theorem dX6_come_7 : decode cX6_come 7 = .ok (.invokestatic 94, 3) := by decide +kernel
theorem dX6_come_10 : decode cX6_come 10 = .ok (.ifCond .ne 5, 3) := by decide +kernel
theorem dX6_come_13 : decode cX6_come 13 = .ok (.iconst (-1), 1) := by decide +kernel
theorem dX6_come_14 : decode cX6_come 14 = .ok (.ireturn, 1) := by decide +kernel
theorem dX6_come_15 : decode cX6_come 15 = .ok (.aload_n 0, 1) := by decide +kernel
theorem dX6_come_16 : decode cX6_come 16 = .ok (.iload_n 1, 1) := by decide +kernel
theorem dX6_come_17 : decode cX6_come 17 = .ok (.iload_n 2, 1) := by decide +kernel
theorem dX6_come_18 : decode cX6_come 18 = .ok (.invokevirtual 97, 3) := by decide +kernel
theorem dX6_come_21 : decode cX6_come 21 = .ok (.istore_n 3, 1) := by decide +kernel
theorem dX6_come_22 : decode cX6_come 22 = .ok (.iload_n 3, 1) := by decide +kernel
theorem dX6_come_23 : decode cX6_come 23 = .ok (.ifCond .eq 5, 3) := by decide +kernel
theorem dX6_come_26 : decode cX6_come 26 = .ok (.iload_n 3, 1) := by decide +kernel
theorem dX6_come_27 : decode cX6_come 27 = .ok (.ireturn, 1) := by decide +kernel
theorem dX6_come_28 : decode cX6_come 28 = .ok (.aload_n 0, 1) := by decide +kernel
theorem dX6_come_29 : decode cX6_come 29 = .ok (.invokevirtual 100, 3) := by decide +kernel
theorem dX6_come_32 : decode cX6_come 32 = .ok (.aload_n 0, 1) := by decide +kernel
theorem dX6_come_33 : decode cX6_come 33 = .ok (.iload_n 1, 1) := by decide +kernel
theorem dX6_come_34 : decode cX6_come 34 = .ok (.iload_n 2, 1) := by decide +kernel
theorem dX6_come_35 : decode cX6_come 35 = .ok (.invokevirtual 103, 3) := by decide +kernel
theorem dX6_come_38 : decode cX6_come 38 = .ok (.ireturn, 1) := by decide +kernel
theorem dX6_swapsAside_0 : decode cX6_swapsAside 0 = .ok (.iconst 0, 1) := by decide +kernel
theorem dX6_swapsAside_1 : decode cX6_swapsAside 1 = .ok (.istore_n 1, 1) := by decide +kernel
theorem dX6_swapsAside_2 : decode cX6_swapsAside 2 = .ok (.iload_n 1, 1) := by decide +kernel
theorem dX6_swapsAside_3 : decode cX6_swapsAside 3 = .ok (.sipush 886, 3) := by decide +kernel
theorem dX6_swapsAside_6 : decode cX6_swapsAside 6 = .ok (.if_icmp .ge 35, 3) := by decide +kernel
theorem dX6_swapsAside_9 : decode cX6_swapsAside 9 = .ok (.aload_n 0, 1) := by decide +kernel
theorem dX6_swapsAside_10 : decode cX6_swapsAside 10 = .ok (.getfield 7, 3) := by decide +kernel
theorem dX6_swapsAside_13 : decode cX6_swapsAside 13 = .ok (.iload_n 1, 1) := by decide +kernel
theorem dX6_swapsAside_14 : decode cX6_swapsAside 14 = .ok (.iaload, 1) := by decide +kernel
theorem dX6_swapsAside_15 : decode cX6_swapsAside 15 = .ok (.istore_n 2, 1) := by decide +kernel
theorem dX6_swapsAside_16 : decode cX6_swapsAside 16 = .ok (.aload_n 0, 1) := by decide +kernel
theorem dX6_swapsAside_17 : decode cX6_swapsAside 17 = .ok (.getfield 7, 3) := by decide +kernel
theorem dX6_swapsAside_20 : decode cX6_swapsAside 20 = .ok (.iload_n 1, 1) := by decide +kernel
theorem dX6_swapsAside_21 : decode cX6_swapsAside 21 = .ok (.aload_n 0, 1) := by decide +kernel
theorem dX6_swapsAside_22 : decode cX6_swapsAside 22 = .ok (.getfield 13, 3) := by decide +kernel
theorem dX6_swapsAside_25 : decode cX6_swapsAside 25 = .ok (.iload_n 1, 1) := by decide +kernel
theorem dX6_swapsAside_26 : decode cX6_swapsAside 26 = .ok (.iaload, 1) := by decide +kernel
theorem dX6_swapsAside_27 : decode cX6_swapsAside 27 = .ok (.iastore, 1) := by decide +kernel
theorem dX6_swapsAside_28 : decode cX6_swapsAside 28 = .ok (.aload_n 0, 1) := by decide +kernel
theorem dX6_swapsAside_29 : decode cX6_swapsAside 29 = .ok (.getfield 13, 3) := by decide +kernel
theorem dX6_swapsAside_32 : decode cX6_swapsAside 32 = .ok (.iload_n 1, 1) := by decide +kernel
theorem dX6_swapsAside_33 : decode cX6_swapsAside 33 = .ok (.iload_n 2, 1) := by decide +kernel
theorem dX6_swapsAside_34 : decode cX6_swapsAside 34 = .ok (.iastore, 1) := by decide +kernel
theorem dX6_swapsAside_35 : decode cX6_swapsAside 35 = .ok (.iinc 1 1, 3) := by decide +kernel
theorem dX6_swapsAside_38 : decode cX6_swapsAside 38 = .ok (.goto (-36), 3) := by decide +kernel
theorem dX6_swapsAside_41 : decode cX6_swapsAside 41 = .ok (.return_, 1) := by decide +kernel
set_option maxRecDepth 20000 in
theorem ggX6_comeAll_X6_reads : GoodIn wsX6_comeAll wsX6_reads := goodIn_r _ [9, 10, 11, 2, 12, 13, 14, 15, 8, 16, 3, 4, 17, 18, 19, 20, 21, 22, 23, 24, 25, 26, 27, 28, 29, 30, 31, 32, 103, 104, 105, 106, 107, 108, 109, 110, 111, 112, 113, 114, 115, 116] (by decide +kernel) (by decide +kernel)
set_option maxRecDepth 20000 in
theorem gX6_comeAll_X6_reads : GoodIn wsX6_comeAll (wsV RX6 106 RX6 yX6_reads wsX6_reads) := goodIn_app (goodIn_of _ (by decide +kernel)) ggX6_comeAll_X6_reads
set_option maxRecDepth 20000 in
theorem ggX6_comeAll_X6_putAside : GoodIn wsX6_comeAll wsX6_putAside := goodIn_r _ [36, 37, 38, 103, 104, 105, 106, 107, 108, 109, 110, 111, 112, 113, 114, 115, 116] (by decide +kernel) (by decide +kernel)
set_option maxRecDepth 20000 in
theorem gX6_comeAll_X6_putAside : GoodIn wsX6_comeAll (wsV RX6 110 RX6 yX6_putAside wsX6_putAside) := goodIn_app (goodIn_of _ (by decide +kernel)) ggX6_comeAll_X6_putAside
set_option maxRecDepth 20000 in
theorem ggX6_comeAll_X6_refuses : GoodIn wsX6_comeAll wsX6_refuses := goodIn_r _ [42, 38, 43, 44, 45, 8, 46, 47, 48, 49, 50, 51, 52, 53, 54, 55, 56, 57, 58, 59, 60, 61, 26, 27, 28, 62, 63, 64, 65, 66, 67, 68, 69, 70, 71, 72, 103, 104, 105, 106, 107, 108, 109, 110, 111, 112, 113, 114, 115, 116] (by decide +kernel) (by decide +kernel)
set_option maxRecDepth 20000 in
theorem gX6_comeAll_X6_refuses : GoodIn wsX6_comeAll (wsV RX6 97 RX6 yX6_refuses wsX6_refuses) := goodIn_app (goodIn_of _ (by decide +kernel)) ggX6_comeAll_X6_refuses
set_option maxRecDepth 20000 in
theorem ggX6_comeAll_X6_takeBack : GoodIn wsX6_comeAll wsX6_takeBack := goodIn_r _ [76, 38, 37, 103, 104, 105, 106, 107, 108, 109, 110, 111, 112, 113, 114, 115, 116] (by decide +kernel) (by decide +kernel)
set_option maxRecDepth 20000 in
theorem gX6_comeAll_X6_takeBack : GoodIn wsX6_comeAll (wsV RX6 116 RX6 yX6_takeBack wsX6_takeBack) := goodIn_app (goodIn_of _ (by decide +kernel)) ggX6_comeAll_X6_takeBack
set_option maxRecDepth 20000 in
theorem ggX6_comeAll_X6_comes : GoodIn wsX6_comeAll wsX6_comes := goodIn_r _ [80, 38, 81, 82, 83, 8, 84, 43, 44, 45, 46, 47, 48, 49, 50, 51, 52, 53, 54, 55, 56, 57, 58, 59, 60, 61, 26, 27, 28, 62, 63, 64, 65, 66, 67, 68, 85, 86, 87, 88, 89, 90, 91, 92, 69, 70, 71, 72, 103, 104, 105, 106, 107, 108, 109, 110, 111, 112, 113, 114, 115, 116] (by decide +kernel) (by decide +kernel)
set_option maxRecDepth 20000 in
theorem gX6_comeAll_X6_comes : GoodIn wsX6_comeAll (wsV RX6 103 RX6 yX6_comes wsX6_comes) := goodIn_app (goodIn_of _ (by decide +kernel)) ggX6_comeAll_X6_comes
set_option maxRecDepth 20000 in
theorem ggX6_comeAll_X6_swapsAside : GoodIn wsX6_comeAll wsX6_swapsAside := goodIn_r _ [96, 38, 37, 103, 104, 105, 106, 107, 108, 109, 110, 111, 112, 113, 114, 115, 116] (by decide +kernel) (by decide +kernel)
set_option maxRecDepth 20000 in
theorem gX6_comeAll_X6_swapsAside : GoodIn wsX6_comeAll (wsV RX6 119 RX6 yX6_swapsAside wsX6_swapsAside) := goodIn_app (goodIn_of _ (by decide +kernel)) ggX6_comeAll_X6_swapsAside
set_option maxRecDepth 20000 in
theorem ggX6_comeAll_X6_records : GoodIn wsX6_comeAll wsX6_records := goodIn_r _ [100, 101, 102, 38, 103, 104, 105, 106, 107, 108, 109, 110, 111, 112, 113, 114, 115, 116] (by decide +kernel) (by decide +kernel)
set_option maxRecDepth 20000 in
theorem gX6_comeAll_X6_records : GoodIn wsX6_comeAll (wsV RX6 100 RX6 yX6_records wsX6_records) := goodIn_app (goodIn_of _ (by decide +kernel)) ggX6_comeAll_X6_records
theorem dX6_comeAll_0 : decode cX6_comeAll 0 = .ok (.aload_n 0, 1) := by decide +kernel
theorem dX6_comeAll_1 : decode cX6_comeAll 1 = .ok (.iconst 0, 1) := by decide +kernel
theorem dX6_comeAll_2 : decode cX6_comeAll 2 = .ok (.putfield 31, 3) := by decide +kernel
theorem dX6_comeAll_5 : decode cX6_comeAll 5 = .ok (.aload_n 0, 1) := by decide +kernel
theorem dX6_comeAll_6 : decode cX6_comeAll 6 = .ok (.invokevirtual 106, 3) := by decide +kernel
theorem dX6_comeAll_9 : decode cX6_comeAll 9 = .ok (.istore_n 1, 1) := by decide +kernel
theorem dX6_comeAll_10 : decode cX6_comeAll 10 = .ok (.iload_n 1, 1) := by decide +kernel
theorem dX6_comeAll_11 : decode cX6_comeAll 11 = .ok (.bipush (-5), 2) := by decide +kernel
theorem dX6_comeAll_13 : decode cX6_comeAll 13 = .ok (.if_icmp .eq 8, 3) := by decide +kernel
theorem dX6_comeAll_16 : decode cX6_comeAll 16 = .ok (.bipush (-100), 2) := by decide +kernel
theorem dX6_comeAll_18 : decode cX6_comeAll 18 = .ok (.iload_n 1, 1) := by decide +kernel
theorem dX6_comeAll_19 : decode cX6_comeAll 19 = .ok (.isub, 1) := by decide +kernel
theorem dX6_comeAll_20 : decode cX6_comeAll 20 = .ok (.ireturn, 1) := by decide +kernel
theorem dX6_comeAll_21 : decode cX6_comeAll 21 = .ok (.aload_n 0, 1) := by decide +kernel
theorem dX6_comeAll_22 : decode cX6_comeAll 22 = .ok (.invokevirtual 110, 3) := by decide +kernel
theorem dX6_comeAll_25 : decode cX6_comeAll 25 = .ok (.iconst 0, 1) := by decide +kernel
theorem dX6_comeAll_26 : decode cX6_comeAll 26 = .ok (.istore_n 2, 1) := by decide +kernel
theorem dX6_comeAll_27 : decode cX6_comeAll 27 = .ok (.iload_n 2, 1) := by decide +kernel
theorem dX6_comeAll_28 : decode cX6_comeAll 28 = .ok (.aload_n 0, 1) := by decide +kernel
theorem dX6_comeAll_29 : decode cX6_comeAll 29 = .ok (.getfield 113, 3) := by decide +kernel
theorem dX6_comeAll_32 : decode cX6_comeAll 32 = .ok (.if_icmp .ge 53, 3) := by decide +kernel
theorem dX6_comeAll_35 : decode cX6_comeAll 35 = .ok (.aload_n 0, 1) := by decide +kernel
theorem dX6_comeAll_36 : decode cX6_comeAll 36 = .ok (.aload_n 0, 1) := by decide +kernel
theorem dX6_comeAll_37 : decode cX6_comeAll 37 = .ok (.getfield 25, 3) := by decide +kernel
theorem dX6_comeAll_40 : decode cX6_comeAll 40 = .ok (.iload_n 2, 1) := by decide +kernel
theorem dX6_comeAll_41 : decode cX6_comeAll 41 = .ok (.iaload, 1) := by decide +kernel
theorem dX6_comeAll_42 : decode cX6_comeAll 42 = .ok (.aload_n 0, 1) := by decide +kernel
theorem dX6_comeAll_43 : decode cX6_comeAll 43 = .ok (.getfield 28, 3) := by decide +kernel
theorem dX6_comeAll_46 : decode cX6_comeAll 46 = .ok (.iload_n 2, 1) := by decide +kernel
theorem dX6_comeAll_47 : decode cX6_comeAll 47 = .ok (.iaload, 1) := by decide +kernel
theorem dX6_comeAll_48 : decode cX6_comeAll 48 = .ok (.invokevirtual 97, 3) := by decide +kernel
theorem dX6_comeAll_51 : decode cX6_comeAll 51 = .ok (.istore_n 3, 1) := by decide +kernel
theorem dX6_comeAll_52 : decode cX6_comeAll 52 = .ok (.iload_n 3, 1) := by decide +kernel
theorem dX6_comeAll_53 : decode cX6_comeAll 53 = .ok (.ifCond .eq 9, 3) := by decide +kernel
theorem dX6_comeAll_56 : decode cX6_comeAll 56 = .ok (.aload_n 0, 1) := by decide +kernel
theorem dX6_comeAll_57 : decode cX6_comeAll 57 = .ok (.invokevirtual 116, 3) := by decide +kernel
theorem dX6_comeAll_60 : decode cX6_comeAll 60 = .ok (.iload_n 3, 1) := by decide +kernel
theorem dX6_comeAll_61 : decode cX6_comeAll 61 = .ok (.ireturn, 1) := by decide +kernel
theorem dX6_comeAll_62 : decode cX6_comeAll 62 = .ok (.aload_n 0, 1) := by decide +kernel
theorem dX6_comeAll_63 : decode cX6_comeAll 63 = .ok (.aload_n 0, 1) := by decide +kernel
theorem dX6_comeAll_64 : decode cX6_comeAll 64 = .ok (.getfield 25, 3) := by decide +kernel
theorem dX6_comeAll_67 : decode cX6_comeAll 67 = .ok (.iload_n 2, 1) := by decide +kernel
theorem dX6_comeAll_68 : decode cX6_comeAll 68 = .ok (.iaload, 1) := by decide +kernel
theorem dX6_comeAll_69 : decode cX6_comeAll 69 = .ok (.aload_n 0, 1) := by decide +kernel
theorem dX6_comeAll_70 : decode cX6_comeAll 70 = .ok (.getfield 28, 3) := by decide +kernel
theorem dX6_comeAll_73 : decode cX6_comeAll 73 = .ok (.iload_n 2, 1) := by decide +kernel
theorem dX6_comeAll_74 : decode cX6_comeAll 74 = .ok (.iaload, 1) := by decide +kernel
theorem dX6_comeAll_75 : decode cX6_comeAll 75 = .ok (.invokevirtual 103, 3) := by decide +kernel
theorem dX6_comeAll_78 : decode cX6_comeAll 78 = .ok (.pop, 1) := by decide +kernel
theorem dX6_comeAll_79 : decode cX6_comeAll 79 = .ok (.iinc 2 1, 3) := by decide +kernel
theorem dX6_comeAll_82 : decode cX6_comeAll 82 = .ok (.goto (-55), 3) := by decide +kernel
theorem dX6_comeAll_85 : decode cX6_comeAll 85 = .ok (.aload_n 0, 1) := by decide +kernel
theorem dX6_comeAll_86 : decode cX6_comeAll 86 = .ok (.invokevirtual 119, 3) := by decide +kernel
theorem dX6_comeAll_89 : decode cX6_comeAll 89 = .ok (.aload_n 0, 1) := by decide +kernel
theorem dX6_comeAll_90 : decode cX6_comeAll 90 = .ok (.invokevirtual 100, 3) := by decide +kernel
theorem dX6_comeAll_93 : decode cX6_comeAll 93 = .ok (.aload_n 0, 1) := by decide +kernel
theorem dX6_comeAll_94 : decode cX6_comeAll 94 = .ok (.invokevirtual 119, 3) := by decide +kernel
theorem dX6_comeAll_97 : decode cX6_comeAll 97 = .ok (.aload_n 0, 1) := by decide +kernel
theorem dX6_comeAll_98 : decode cX6_comeAll 98 = .ok (.getfield 113, 3) := by decide +kernel
theorem dX6_comeAll_101 : decode cX6_comeAll 101 = .ok (.ireturn, 1) := by decide +kernel
set_option maxRecDepth 20000 in
theorem ggX6_firstToGive_X6_ofPlot : GoodIn wsX6_firstToGive wsX6_ofPlot := goodIn_r _ [6, 1, 11, 12, 13, 14, 15, 16, 17, 18, 19, 20, 21, 22, 23, 24] (by decide +kernel) (by decide +kernel)
set_option maxRecDepth 20000 in
theorem gX6_firstToGive_X6_ofPlot : GoodIn wsX6_firstToGive (wsV RX6 46 RX6 yX6_ofPlot wsX6_ofPlot) := goodIn_app (goodIn_of _ (by decide +kernel)) ggX6_firstToGive_X6_ofPlot
set_option maxRecDepth 20000 in
theorem ggX6_firstToGive_X6_isAhead : GoodIn wsX6_firstToGive wsX6_isAhead := goodIn_r _ [10, 2, 3, 4, 5, 6, 1, 11, 12, 13, 14, 15, 16, 17, 18, 19, 20, 21, 22, 23, 24] (by decide +kernel) (by decide +kernel)
set_option maxRecDepth 20000 in
theorem gX6_firstToGive_X6_isAhead : GoodIn wsX6_firstToGive (wsV RX6 73 RX6 yX6_isAhead wsX6_isAhead) := goodIn_app (goodIn_of _ (by decide +kernel)) ggX6_firstToGive_X6_isAhead
theorem dX6_firstToGive_0 : decode cX6_firstToGive 0 = .ok (.bipush (-5), 2) := by decide +kernel
theorem dX6_firstToGive_2 : decode cX6_firstToGive 2 = .ok (.istore_n 2, 1) := by decide +kernel
theorem dX6_firstToGive_3 : decode cX6_firstToGive 3 = .ok (.iconst 0, 1) := by decide +kernel
theorem dX6_firstToGive_4 : decode cX6_firstToGive 4 = .ok (.istore_n 3, 1) := by decide +kernel
theorem dX6_firstToGive_5 : decode cX6_firstToGive 5 = .ok (.iload_n 3, 1) := by decide +kernel
theorem dX6_firstToGive_6 : decode cX6_firstToGive 6 = .ok (.aload_n 0, 1) := by decide +kernel
theorem dX6_firstToGive_7 : decode cX6_firstToGive 7 = .ok (.getfield 7, 3) := by decide +kernel
theorem dX6_firstToGive_10 : decode cX6_firstToGive 10 = .ok (.iconst 1, 1) := by decide +kernel
theorem dX6_firstToGive_11 : decode cX6_firstToGive 11 = .ok (.iaload, 1) := by decide +kernel
theorem dX6_firstToGive_12 : decode cX6_firstToGive 12 = .ok (.if_icmp .ge 71, 3) := by decide +kernel
theorem dX6_firstToGive_15 : decode cX6_firstToGive 15 = .ok (.aload_n 0, 1) := by decide +kernel
theorem dX6_firstToGive_16 : decode cX6_firstToGive 16 = .ok (.iload_n 3, 1) := by decide +kernel
theorem dX6_firstToGive_17 : decode cX6_firstToGive 17 = .ok (.iconst 3, 1) := by decide +kernel
theorem dX6_firstToGive_18 : decode cX6_firstToGive 18 = .ok (.invokevirtual 46, 3) := by decide +kernel
theorem dX6_firstToGive_21 : decode cX6_firstToGive 21 = .ok (.iload_n 1, 1) := by decide +kernel
theorem dX6_firstToGive_22 : decode cX6_firstToGive 22 = .ok (.iconst 1, 1) := by decide +kernel
theorem dX6_firstToGive_23 : decode cX6_firstToGive 23 = .ok (.iadd, 1) := by decide +kernel
theorem dX6_firstToGive_24 : decode cX6_firstToGive 24 = .ok (.if_icmp .ne 53, 3) := by decide +kernel
theorem dX6_firstToGive_27 : decode cX6_firstToGive 27 = .ok (.iload_n 2, 1) := by decide +kernel
theorem dX6_firstToGive_28 : decode cX6_firstToGive 28 = .ok (.bipush (-5), 2) := by decide +kernel
theorem dX6_firstToGive_30 : decode cX6_firstToGive 30 = .ok (.if_icmp .ne 7, 3) := by decide +kernel
theorem dX6_firstToGive_33 : decode cX6_firstToGive 33 = .ok (.iconst 1, 1) := by decide +kernel
theorem dX6_firstToGive_34 : decode cX6_firstToGive 34 = .ok (.goto 16, 3) := by decide +kernel
theorem dX6_firstToGive_37 : decode cX6_firstToGive 37 = .ok (.aload_n 0, 1) := by decide +kernel
theorem dX6_firstToGive_38 : decode cX6_firstToGive 38 = .ok (.iload_n 3, 1) := by decide +kernel
theorem dX6_firstToGive_39 : decode cX6_firstToGive 39 = .ok (.iconst 0, 1) := by decide +kernel
theorem dX6_firstToGive_40 : decode cX6_firstToGive 40 = .ok (.invokevirtual 46, 3) := by decide +kernel
theorem dX6_firstToGive_43 : decode cX6_firstToGive 43 = .ok (.aload_n 0, 1) := by decide +kernel
theorem dX6_firstToGive_44 : decode cX6_firstToGive 44 = .ok (.iload_n 2, 1) := by decide +kernel
theorem dX6_firstToGive_45 : decode cX6_firstToGive 45 = .ok (.iconst 0, 1) := by decide +kernel
theorem dX6_firstToGive_46 : decode cX6_firstToGive 46 = .ok (.invokevirtual 46, 3) := by decide +kernel
theorem dX6_firstToGive_49 : decode cX6_firstToGive 49 = .ok (.isub, 1) := by decide +kernel
theorem dX6_firstToGive_50 : decode cX6_firstToGive 50 = .ok (.istore 4, 2) := by decide +kernel
theorem dX6_firstToGive_52 : decode cX6_firstToGive 52 = .ok (.iload 4, 2) := by decide +kernel
theorem dX6_firstToGive_54 : decode cX6_firstToGive 54 = .ok (.ifCond .gt 17, 3) := by decide +kernel
theorem dX6_firstToGive_57 : decode cX6_firstToGive 57 = .ok (.iload 4, 2) := by decide +kernel
theorem dX6_firstToGive_59 : decode cX6_firstToGive 59 = .ok (.ifCond .ne 16, 3) := by decide +kernel
theorem dX6_firstToGive_62 : decode cX6_firstToGive 62 = .ok (.aload_n 0, 1) := by decide +kernel
theorem dX6_firstToGive_63 : decode cX6_firstToGive 63 = .ok (.iload_n 3, 1) := by decide +kernel
theorem dX6_firstToGive_64 : decode cX6_firstToGive 64 = .ok (.iload_n 2, 1) := by decide +kernel
theorem dX6_firstToGive_65 : decode cX6_firstToGive 65 = .ok (.invokevirtual 73, 3) := by decide +kernel
theorem dX6_firstToGive_68 : decode cX6_firstToGive 68 = .ok (.ifCond .eq 7, 3) := by decide +kernel
theorem dX6_firstToGive_71 : decode cX6_firstToGive 71 = .ok (.iload_n 3, 1) := by decide +kernel
theorem dX6_firstToGive_72 : decode cX6_firstToGive 72 = .ok (.goto 4, 3) := by decide +kernel
theorem dX6_firstToGive_75 : decode cX6_firstToGive 75 = .ok (.iload_n 2, 1) := by decide +kernel
theorem dX6_firstToGive_76 : decode cX6_firstToGive 76 = .ok (.istore_n 2, 1) := by decide +kernel
theorem dX6_firstToGive_77 : decode cX6_firstToGive 77 = .ok (.iinc 3 1, 3) := by decide +kernel
theorem dX6_firstToGive_80 : decode cX6_firstToGive 80 = .ok (.goto (-75), 3) := by decide +kernel
theorem dX6_firstToGive_83 : decode cX6_firstToGive 83 = .ok (.iload_n 2, 1) := by decide +kernel
theorem dX6_firstToGive_84 : decode cX6_firstToGive 84 = .ok (.ireturn, 1) := by decide +kernel
set_option maxRecDepth 20000 in
theorem ggX6_smallestBeside_X6_isHere : GoodIn wsX6_smallestBeside wsX6_isHere := goodIn_r _ [5, 6, 7, 4, 8, 9, 10, 11, 12, 13, 51, 52, 53, 54, 55, 56, 57, 58, 59, 60, 61, 62, 63, 64] (by decide +kernel) (by decide +kernel)
set_option maxRecDepth 20000 in
theorem gX6_smallestBeside_X6_isHere : GoodIn wsX6_smallestBeside (wsV RX6 122 RX6 yX6_isHere wsX6_isHere) := goodIn_app (goodIn_of _ (by decide +kernel)) ggX6_smallestBeside_X6_isHere
set_option maxRecDepth 20000 in
theorem ggX6_smallestBeside_X6_touches : GoodIn wsX6_smallestBeside wsX6_touches := goodIn_r _ [17, 13, 18, 19, 20, 4, 21, 22, 23, 24, 25, 26, 27, 28, 29, 30, 31, 32, 33, 34, 35, 36, 37, 38, 39, 40, 41, 42, 51, 52, 53, 54, 55, 56, 57, 58, 59, 60, 61, 62, 63, 64] (by decide +kernel) (by decide +kernel)
set_option maxRecDepth 20000 in
theorem gX6_smallestBeside_X6_touches : GoodIn wsX6_smallestBeside (wsV RX6 126 RX6 yX6_touches wsX6_touches) := goodIn_app (goodIn_of _ (by decide +kernel)) ggX6_smallestBeside_X6_touches
set_option maxRecDepth 20000 in
theorem ggX6_smallestBeside_X6_areaOf : GoodIn wsX6_smallestBeside wsX6_areaOf := goodIn_r _ [46, 13, 18, 19, 20, 4, 21, 47, 48, 49, 50, 30, 31, 32, 37, 38, 39, 51, 52, 53, 54, 55, 56, 57, 58, 59, 60, 61, 62, 63, 64] (by decide +kernel) (by decide +kernel)
set_option maxRecDepth 20000 in
theorem gX6_smallestBeside_X6_areaOf : GoodIn wsX6_smallestBeside (wsV RX6 129 RX6 yX6_areaOf wsX6_areaOf) := goodIn_app (goodIn_of _ (by decide +kernel)) ggX6_smallestBeside_X6_areaOf
theorem dX6_smallestBeside_0 : decode cX6_smallestBeside 0 = .ok (.bipush (-5), 2) := by decide +kernel
theorem dX6_smallestBeside_2 : decode cX6_smallestBeside 2 = .ok (.istore_n 3, 1) := by decide +kernel
theorem dX6_smallestBeside_3 : decode cX6_smallestBeside 3 = .ok (.iconst 0, 1) := by decide +kernel
theorem dX6_smallestBeside_4 : decode cX6_smallestBeside 4 = .ok (.istore 4, 2) := by decide +kernel
theorem dX6_smallestBeside_6 : decode cX6_smallestBeside 6 = .ok (.iload 4, 2) := by decide +kernel
theorem dX6_smallestBeside_8 : decode cX6_smallestBeside 8 = .ok (.bipush 16, 2) := by decide +kernel
theorem dX6_smallestBeside_10 : decode cX6_smallestBeside 10 = .ok (.if_icmp .ge 73, 3) := by decide +kernel
theorem dX6_smallestBeside_13 : decode cX6_smallestBeside 13 = .ok (.iload 4, 2) := by decide +kernel
theorem dX6_smallestBeside_15 : decode cX6_smallestBeside 15 = .ok (.iload_n 2, 1) := by decide +kernel
theorem dX6_smallestBeside_16 : decode cX6_smallestBeside 16 = .ok (.if_icmp .eq 26, 3) := by decide +kernel
theorem dX6_smallestBeside_19 : decode cX6_smallestBeside 19 = .ok (.aload_n 0, 1) := by decide +kernel
theorem dX6_smallestBeside_20 : decode cX6_smallestBeside 20 = .ok (.iload 4, 2) := by decide +kernel
theorem dX6_smallestBeside_22 : decode cX6_smallestBeside 22 = .ok (.invokevirtual 122, 3) := by decide +kernel
theorem dX6_smallestBeside_25 : decode cX6_smallestBeside 25 = .ok (.ifCond .eq 17, 3) := by decide +kernel
theorem dX6_smallestBeside_28 : decode cX6_smallestBeside 28 = .ok (.aload_n 0, 1) := by decide +kernel
theorem dX6_smallestBeside_29 : decode cX6_smallestBeside 29 = .ok (.iload_n 1, 1) := by decide +kernel
theorem dX6_smallestBeside_30 : decode cX6_smallestBeside 30 = .ok (.iload 4, 2) := by decide +kernel
theorem dX6_smallestBeside_32 : decode cX6_smallestBeside 32 = .ok (.invokevirtual 126, 3) := by decide +kernel
theorem dX6_smallestBeside_35 : decode cX6_smallestBeside 35 = .ok (.ifCond .eq 7, 3) := by decide +kernel
theorem dX6_smallestBeside_38 : decode cX6_smallestBeside 38 = .ok (.iconst 1, 1) := by decide +kernel
theorem dX6_smallestBeside_39 : decode cX6_smallestBeside 39 = .ok (.goto 4, 3) := by decide +kernel
theorem dX6_smallestBeside_42 : decode cX6_smallestBeside 42 = .ok (.iconst 0, 1) := by decide +kernel
theorem dX6_smallestBeside_43 : decode cX6_smallestBeside 43 = .ok (.istore 5, 2) := by decide +kernel
theorem dX6_smallestBeside_45 : decode cX6_smallestBeside 45 = .ok (.iload 5, 2) := by decide +kernel
theorem dX6_smallestBeside_47 : decode cX6_smallestBeside 47 = .ok (.ifCond .eq 28, 3) := by decide +kernel
theorem dX6_smallestBeside_50 : decode cX6_smallestBeside 50 = .ok (.iload_n 3, 1) := by decide +kernel
theorem dX6_smallestBeside_51 : decode cX6_smallestBeside 51 = .ok (.bipush (-5), 2) := by decide +kernel
theorem dX6_smallestBeside_53 : decode cX6_smallestBeside 53 = .ok (.if_icmp .eq 17, 3) := by decide +kernel
theorem dX6_smallestBeside_56 : decode cX6_smallestBeside 56 = .ok (.aload_n 0, 1) := by decide +kernel
theorem dX6_smallestBeside_57 : decode cX6_smallestBeside 57 = .ok (.iload 4, 2) := by decide +kernel
theorem dX6_smallestBeside_59 : decode cX6_smallestBeside 59 = .ok (.invokevirtual 129, 3) := by decide +kernel
theorem dX6_smallestBeside_62 : decode cX6_smallestBeside 62 = .ok (.aload_n 0, 1) := by decide +kernel
theorem dX6_smallestBeside_63 : decode cX6_smallestBeside 63 = .ok (.iload_n 3, 1) := by decide +kernel
theorem dX6_smallestBeside_64 : decode cX6_smallestBeside 64 = .ok (.invokevirtual 129, 3) := by decide +kernel
theorem dX6_smallestBeside_67 : decode cX6_smallestBeside 67 = .ok (.if_icmp .ge 8, 3) := by decide +kernel
theorem dX6_smallestBeside_70 : decode cX6_smallestBeside 70 = .ok (.iload 4, 2) := by decide +kernel
theorem dX6_smallestBeside_72 : decode cX6_smallestBeside 72 = .ok (.goto 4, 3) := by decide +kernel
theorem dX6_smallestBeside_75 : decode cX6_smallestBeside 75 = .ok (.iload_n 3, 1) := by decide +kernel
theorem dX6_smallestBeside_76 : decode cX6_smallestBeside 76 = .ok (.istore_n 3, 1) := by decide +kernel
theorem dX6_smallestBeside_77 : decode cX6_smallestBeside 77 = .ok (.iinc 4 1, 3) := by decide +kernel
theorem dX6_smallestBeside_80 : decode cX6_smallestBeside 80 = .ok (.goto (-74), 3) := by decide +kernel
theorem dX6_smallestBeside_83 : decode cX6_smallestBeside 83 = .ok (.iload_n 3, 1) := by decide +kernel
theorem dX6_smallestBeside_84 : decode cX6_smallestBeside 84 = .ok (.ireturn, 1) := by decide +kernel
set_option maxRecDepth 20000 in
theorem ggX6_givesAway_X6_otherHalf : GoodIn wsX6_givesAway wsX6_otherHalf := goodIn_r _ [6, 1, 7, 8, 9, 5, 10, 11, 12, 13, 14, 15, 16, 71, 72, 73, 74, 75, 76, 77, 78, 79, 80, 81, 82, 83, 84] (by decide +kernel) (by decide +kernel)
set_option maxRecDepth 20000 in
theorem gX6_givesAway_X6_otherHalf : GoodIn wsX6_givesAway (wsV RX6 132 RX6 yX6_otherHalf wsX6_otherHalf) := goodIn_app (goodIn_of _ (by decide +kernel)) ggX6_givesAway_X6_otherHalf
set_option maxRecDepth 20000 in
theorem ggX6_givesAway_X6_smallestBeside : GoodIn wsX6_givesAway wsX6_smallestBeside := goodIn_r _ [20, 21, 22, 23, 5, 24, 25, 26, 27, 28, 29, 30, 31, 1, 32, 33, 34, 35, 7, 8, 9, 10, 36, 37, 38, 39, 40, 41, 42, 43, 11, 12, 13, 44, 45, 46, 47, 14, 15, 16, 48, 49, 50, 51, 52, 53, 54, 55, 56, 57, 58, 71, 72, 73, 74, 75, 76, 77, 78, 79, 80, 81, 82, 83, 84] (by decide +kernel) (by decide +kernel)
set_option maxRecDepth 20000 in
theorem gX6_givesAway_X6_smallestBeside : GoodIn wsX6_givesAway (wsV RX6 135 RX6 yX6_smallestBeside wsX6_smallestBeside) := goodIn_app (goodIn_of _ (by decide +kernel)) ggX6_givesAway_X6_smallestBeside
set_option maxRecDepth 20000 in
theorem ggX6_givesAway_X6_ofPlot : GoodIn wsX6_givesAway wsX6_ofPlot := goodIn_r _ [10, 1, 71, 72, 73, 74, 75, 76, 77, 78, 79, 80, 81, 82, 83, 84] (by decide +kernel) (by decide +kernel)
set_option maxRecDepth 20000 in
theorem gX6_givesAway_X6_ofPlot : GoodIn wsX6_givesAway (wsV RX6 46 RX6 yX6_ofPlot wsX6_ofPlot) := goodIn_app (goodIn_of _ (by decide +kernel)) ggX6_givesAway_X6_ofPlot
set_option maxRecDepth 20000 in
theorem ggX6_givesAway_X6_joins : GoodIn wsX6_givesAway wsX6_joins := goodIn_r _ [62, 1, 63, 64, 65, 5, 66, 7, 8, 9, 10, 67, 68, 69, 70, 71, 72, 73, 74, 75, 76, 77, 78, 79, 80, 81, 82, 83, 84] (by decide +kernel) (by decide +kernel)
set_option maxRecDepth 20000 in
theorem gX6_givesAway_X6_joins : GoodIn wsX6_givesAway (wsV RX6 138 RX6 yX6_joins wsX6_joins) := goodIn_app (goodIn_of _ (by decide +kernel)) ggX6_givesAway_X6_joins
theorem dX6_givesAway_0 : decode cX6_givesAway 0 = .ok (.aload_n 0, 1) := by decide +kernel
theorem dX6_givesAway_1 : decode cX6_givesAway 1 = .ok (.iload_n 1, 1) := by decide +kernel
theorem dX6_givesAway_2 : decode cX6_givesAway 2 = .ok (.invokevirtual 132, 3) := by decide +kernel
theorem dX6_givesAway_5 : decode cX6_givesAway 5 = .ok (.istore_n 3, 1) := by decide +kernel
theorem dX6_givesAway_6 : decode cX6_givesAway 6 = .ok (.aload_n 0, 1) := by decide +kernel
theorem dX6_givesAway_7 : decode cX6_givesAway 7 = .ok (.iload_n 1, 1) := by decide +kernel
theorem dX6_givesAway_8 : decode cX6_givesAway 8 = .ok (.iload_n 2, 1) := by decide +kernel
theorem dX6_givesAway_9 : decode cX6_givesAway 9 = .ok (.invokevirtual 135, 3) := by decide +kernel
theorem dX6_givesAway_12 : decode cX6_givesAway 12 = .ok (.istore 4, 2) := by decide +kernel
theorem dX6_givesAway_14 : decode cX6_givesAway 14 = .ok (.iload_n 3, 1) := by decide +kernel
theorem dX6_givesAway_15 : decode cX6_givesAway 15 = .ok (.bipush (-5), 2) := by decide +kernel
theorem dX6_givesAway_17 : decode cX6_givesAway 17 = .ok (.if_icmp .eq 18, 3) := by decide +kernel
theorem dX6_givesAway_20 : decode cX6_givesAway 20 = .ok (.aload_n 0, 1) := by decide +kernel
theorem dX6_givesAway_21 : decode cX6_givesAway 21 = .ok (.iload_n 1, 1) := by decide +kernel
theorem dX6_givesAway_22 : decode cX6_givesAway 22 = .ok (.iload_n 3, 1) := by decide +kernel
theorem dX6_givesAway_23 : decode cX6_givesAway 23 = .ok (.aload_n 0, 1) := by decide +kernel
theorem dX6_givesAway_24 : decode cX6_givesAway 24 = .ok (.iload_n 3, 1) := by decide +kernel
theorem dX6_givesAway_25 : decode cX6_givesAway 25 = .ok (.iconst 3, 1) := by decide +kernel
theorem dX6_givesAway_26 : decode cX6_givesAway 26 = .ok (.invokevirtual 46, 3) := by decide +kernel
theorem dX6_givesAway_29 : decode cX6_givesAway 29 = .ok (.invokevirtual 138, 3) := by decide +kernel
theorem dX6_givesAway_32 : decode cX6_givesAway 32 = .ok (.goto 30, 3) := by decide +kernel
theorem dX6_givesAway_35 : decode cX6_givesAway 35 = .ok (.aload_n 0, 1) := by decide +kernel
theorem dX6_givesAway_36 : decode cX6_givesAway 36 = .ok (.getfield 7, 3) := by decide +kernel
theorem dX6_givesAway_39 : decode cX6_givesAway 39 = .ok (.bipush 54, 2) := by decide +kernel
theorem dX6_givesAway_41 : decode cX6_givesAway 41 = .ok (.iconst 4, 1) := by decide +kernel
theorem dX6_givesAway_42 : decode cX6_givesAway 42 = .ok (.iload_n 1, 1) := by decide +kernel
theorem dX6_givesAway_43 : decode cX6_givesAway 43 = .ok (.imul, 1) := by decide +kernel
theorem dX6_givesAway_44 : decode cX6_givesAway 44 = .ok (.iadd, 1) := by decide +kernel
theorem dX6_givesAway_45 : decode cX6_givesAway 45 = .ok (.iconst 3, 1) := by decide +kernel
theorem dX6_givesAway_46 : decode cX6_givesAway 46 = .ok (.iadd, 1) := by decide +kernel
theorem dX6_givesAway_47 : decode cX6_givesAway 47 = .ok (.iload 4, 2) := by decide +kernel
theorem dX6_givesAway_49 : decode cX6_givesAway 49 = .ok (.iconst 1, 1) := by decide +kernel
theorem dX6_givesAway_50 : decode cX6_givesAway 50 = .ok (.iadd, 1) := by decide +kernel
theorem dX6_givesAway_51 : decode cX6_givesAway 51 = .ok (.iastore, 1) := by decide +kernel
theorem dX6_givesAway_52 : decode cX6_givesAway 52 = .ok (.aload_n 0, 1) := by decide +kernel
theorem dX6_givesAway_53 : decode cX6_givesAway 53 = .ok (.getfield 7, 3) := by decide +kernel
theorem dX6_givesAway_56 : decode cX6_givesAway 56 = .ok (.iconst 5, 1) := by decide +kernel
theorem dX6_givesAway_57 : decode cX6_givesAway 57 = .ok (.dup2, 1) := by decide +kernel
theorem dX6_givesAway_58 : decode cX6_givesAway 58 = .ok (.iaload, 1) := by decide +kernel
theorem dX6_givesAway_59 : decode cX6_givesAway 59 = .ok (.iconst 1, 1) := by decide +kernel
theorem dX6_givesAway_60 : decode cX6_givesAway 60 = .ok (.iadd, 1) := by decide +kernel
theorem dX6_givesAway_61 : decode cX6_givesAway 61 = .ok (.iastore, 1) := by decide +kernel
theorem dX6_givesAway_62 : decode cX6_givesAway 62 = .ok (.return_, 1) := by decide +kernel
set_option maxRecDepth 20000 in
theorem ggX6_leave_X6_isHere : GoodIn wsX6_leave wsX6_isHere := goodIn_r _ [7, 8, 9, 6, 10, 11, 12, 13, 14, 2, 94, 95, 96, 97, 98, 99, 100, 101, 102, 103, 104, 105, 106, 107] (by decide +kernel) (by decide +kernel)
set_option maxRecDepth 20000 in
theorem gX6_leave_X6_isHere : GoodIn wsX6_leave (wsV RX6 122 RX6 yX6_isHere wsX6_isHere) := goodIn_app (goodIn_of _ (by decide +kernel)) ggX6_leave_X6_isHere
set_option maxRecDepth 20000 in
theorem ggX6_leave_X6_records : GoodIn wsX6_leave wsX6_records := goodIn_r _ [18, 19, 20, 2, 94, 95, 96, 97, 98, 99, 100, 101, 102, 103, 104, 105, 106, 107] (by decide +kernel) (by decide +kernel)
set_option maxRecDepth 20000 in
theorem gX6_leave_X6_records : GoodIn wsX6_leave (wsV RX6 100 RX6 yX6_records wsX6_records) := goodIn_app (goodIn_of _ (by decide +kernel)) ggX6_leave_X6_records
set_option maxRecDepth 20000 in
theorem ggX6_leave_X6_layCamper : GoodIn wsX6_leave wsX6_layCamper := goodIn_r _ [24, 2, 94, 95, 96, 97, 98, 99, 100, 101, 102, 103, 104, 105, 106, 107] (by decide +kernel) (by decide +kernel)
set_option maxRecDepth 20000 in
theorem gX6_leave_X6_layCamper : GoodIn wsX6_leave (wsV RX6 86 RX6 yX6_layCamper wsX6_layCamper) := goodIn_app (goodIn_of _ (by decide +kernel)) ggX6_leave_X6_layCamper
set_option maxRecDepth 20000 in
theorem ggX6_leave_X6_onField : GoodIn wsX6_leave wsX6_onField := goodIn_r _ [28, 11, 12, 13, 6, 14, 2, 94, 95, 96, 97, 98, 99, 100, 101, 102, 103, 104, 105, 106, 107] (by decide +kernel) (by decide +kernel)
set_option maxRecDepth 20000 in
theorem gX6_leave_X6_onField : GoodIn wsX6_leave (wsV RX6 141 RX6 yX6_onField wsX6_onField) := goodIn_app (goodIn_of _ (by decide +kernel)) ggX6_leave_X6_onField
set_option maxRecDepth 20000 in
theorem ggX6_leave_X6_layPlot : GoodIn wsX6_leave wsX6_layPlot := goodIn_r _ [32, 2, 94, 95, 96, 97, 98, 99, 100, 101, 102, 103, 104, 105, 106, 107] (by decide +kernel) (by decide +kernel)
set_option maxRecDepth 20000 in
theorem gX6_leave_X6_layPlot : GoodIn wsX6_leave (wsV RX6 69 RX6 yX6_layPlot wsX6_layPlot) := goodIn_app (goodIn_of _ (by decide +kernel)) ggX6_leave_X6_layPlot
set_option maxRecDepth 20000 in
theorem ggX6_leave_X6_firstToGive : GoodIn wsX6_leave wsX6_firstToGive := goodIn_r _ [36, 2, 37, 38, 39, 6, 40, 41, 42, 43, 44, 94, 95, 96, 97, 98, 99, 100, 101, 102, 103, 104, 105, 106, 107] (by decide +kernel) (by decide +kernel)
set_option maxRecDepth 20000 in
theorem gX6_leave_X6_firstToGive : GoodIn wsX6_leave (wsV RX6 144 RX6 yX6_firstToGive wsX6_firstToGive) := goodIn_app (goodIn_of _ (by decide +kernel)) ggX6_leave_X6_firstToGive
set_option maxRecDepth 20000 in
theorem ggX6_leave_X6_givesAway : GoodIn wsX6_leave wsX6_givesAway := goodIn_r _ [48, 2, 49, 50, 51, 6, 52, 37, 38, 39, 40, 53, 54, 55, 56, 57, 58, 59, 60, 61, 62, 3, 4, 5, 7, 8, 9, 10, 11, 12, 13, 14, 63, 64, 65, 66, 67, 68, 69, 70, 71, 72, 73, 74, 75, 76, 77, 78, 79, 80, 81, 82, 83, 84, 85, 86, 87, 88, 89, 90, 91, 92, 93, 41, 42, 43, 44, 29, 30, 31, 32, 94, 95, 96, 97, 98, 99, 100, 101, 102, 103, 104, 105, 106, 107] (by decide +kernel) (by decide +kernel)
set_option maxRecDepth 20000 in
theorem gX6_leave_X6_givesAway : GoodIn wsX6_leave (wsV RX6 147 RX6 yX6_givesAway wsX6_givesAway) := goodIn_app (goodIn_of _ (by decide +kernel)) ggX6_leave_X6_givesAway
theorem dX6_leave_0 : decode cX6_leave 0 = .ok (.aload_n 0, 1) := by decide +kernel
theorem dX6_leave_1 : decode cX6_leave 1 = .ok (.iconst 0, 1) := by decide +kernel
theorem dX6_leave_2 : decode cX6_leave 2 = .ok (.putfield 31, 3) := by decide +kernel
theorem dX6_leave_5 : decode cX6_leave 5 = .ok (.aload_n 0, 1) := by decide +kernel
theorem dX6_leave_6 : decode cX6_leave 6 = .ok (.iload_n 1, 1) := by decide +kernel
theorem dX6_leave_7 : decode cX6_leave 7 = .ok (.invokevirtual 122, 3) := by decide +kernel
theorem dX6_leave_10 : decode cX6_leave 10 = .ok (.ifCond .ne 5, 3) := by decide +kernel
theorem dX6_leave_13 : decode cX6_leave 13 = .ok (.iconst (-1), 1) := by decide +kernel
theorem dX6_leave_14 : decode cX6_leave 14 = .ok (.ireturn, 1) := by decide +kernel
theorem dX6_leave_15 : decode cX6_leave 15 = .ok (.aload_n 0, 1) := by decide +kernel
theorem dX6_leave_16 : decode cX6_leave 16 = .ok (.invokevirtual 100, 3) := by decide +kernel
theorem dX6_leave_19 : decode cX6_leave 19 = .ok (.aload_n 0, 1) := by decide +kernel
theorem dX6_leave_20 : decode cX6_leave 20 = .ok (.iload_n 1, 1) := by decide +kernel
theorem dX6_leave_21 : decode cX6_leave 21 = .ok (.iconst 0, 1) := by decide +kernel
theorem dX6_leave_22 : decode cX6_leave 22 = .ok (.iconst 0, 1) := by decide +kernel
theorem dX6_leave_23 : decode cX6_leave 23 = .ok (.invokevirtual 86, 3) := by decide +kernel
theorem dX6_leave_26 : decode cX6_leave 26 = .ok (.aload_n 0, 1) := by decide +kernel
theorem dX6_leave_27 : decode cX6_leave 27 = .ok (.invokevirtual 141, 3) := by decide +kernel
theorem dX6_leave_30 : decode cX6_leave 30 = .ok (.ifCond .ne 21, 3) := by decide +kernel
theorem dX6_leave_33 : decode cX6_leave 33 = .ok (.aload_n 0, 1) := by decide +kernel
theorem dX6_leave_34 : decode cX6_leave 34 = .ok (.getfield 7, 3) := by decide +kernel
theorem dX6_leave_37 : decode cX6_leave 37 = .ok (.iconst 1, 1) := by decide +kernel
theorem dX6_leave_38 : decode cX6_leave 38 = .ok (.iconst 1, 1) := by decide +kernel
theorem dX6_leave_39 : decode cX6_leave 39 = .ok (.iastore, 1) := by decide +kernel
theorem dX6_leave_40 : decode cX6_leave 40 = .ok (.aload_n 0, 1) := by decide +kernel
theorem dX6_leave_41 : decode cX6_leave 41 = .ok (.iconst 0, 1) := by decide +kernel
theorem dX6_leave_42 : decode cX6_leave 42 = .ok (.iconst 0, 1) := by decide +kernel
theorem dX6_leave_43 : decode cX6_leave 43 = .ok (.iconst 0, 1) := by decide +kernel
theorem dX6_leave_44 : decode cX6_leave 44 = .ok (.iconst 0, 1) := by decide +kernel
theorem dX6_leave_45 : decode cX6_leave 45 = .ok (.iconst 0, 1) := by decide +kernel
theorem dX6_leave_46 : decode cX6_leave 46 = .ok (.invokevirtual 69, 3) := by decide +kernel
theorem dX6_leave_49 : decode cX6_leave 49 = .ok (.iconst 0, 1) := by decide +kernel
theorem dX6_leave_50 : decode cX6_leave 50 = .ok (.ireturn, 1) := by decide +kernel
theorem dX6_leave_51 : decode cX6_leave 51 = .ok (.aload_n 0, 1) := by decide +kernel
theorem dX6_leave_52 : decode cX6_leave 52 = .ok (.iload_n 1, 1) := by decide +kernel
theorem dX6_leave_53 : decode cX6_leave 53 = .ok (.invokevirtual 144, 3) := by decide +kernel
theorem dX6_leave_56 : decode cX6_leave 56 = .ok (.istore_n 2, 1) := by decide +kernel
theorem dX6_leave_57 : decode cX6_leave 57 = .ok (.iload_n 2, 1) := by decide +kernel
theorem dX6_leave_58 : decode cX6_leave 58 = .ok (.bipush (-5), 2) := by decide +kernel
theorem dX6_leave_60 : decode cX6_leave 60 = .ok (.if_icmp .eq 18, 3) := by decide +kernel
theorem dX6_leave_63 : decode cX6_leave 63 = .ok (.aload_n 0, 1) := by decide +kernel
theorem dX6_leave_64 : decode cX6_leave 64 = .ok (.iload_n 2, 1) := by decide +kernel
theorem dX6_leave_65 : decode cX6_leave 65 = .ok (.iload_n 1, 1) := by decide +kernel
theorem dX6_leave_66 : decode cX6_leave 66 = .ok (.invokevirtual 147, 3) := by decide +kernel
theorem dX6_leave_69 : decode cX6_leave 69 = .ok (.aload_n 0, 1) := by decide +kernel
theorem dX6_leave_70 : decode cX6_leave 70 = .ok (.iload_n 1, 1) := by decide +kernel
theorem dX6_leave_71 : decode cX6_leave 71 = .ok (.invokevirtual 144, 3) := by decide +kernel
theorem dX6_leave_74 : decode cX6_leave 74 = .ok (.istore_n 2, 1) := by decide +kernel
theorem dX6_leave_75 : decode cX6_leave 75 = .ok (.goto (-18), 3) := by decide +kernel
theorem dX6_leave_78 : decode cX6_leave 78 = .ok (.aload_n 0, 1) := by decide +kernel
theorem dX6_leave_79 : decode cX6_leave 79 = .ok (.invokevirtual 141, 3) := by decide +kernel
theorem dX6_leave_82 : decode cX6_leave 82 = .ok (.ireturn, 1) := by decide +kernel
set_option maxRecDepth 20000 in
theorem ggX6_moveTent_X6_isHere : GoodIn wsX6_moveTent wsX6_isHere := goodIn_r _ [6, 7, 8, 5, 9, 10, 11, 12, 13, 14, 54, 55, 56, 57, 58, 59, 60, 61, 62, 63, 64, 65, 66, 67] (by decide +kernel) (by decide +kernel)
set_option maxRecDepth 20000 in
theorem gX6_moveTent_X6_isHere : GoodIn wsX6_moveTent (wsV RX6 122 RX6 yX6_isHere wsX6_isHere) := goodIn_app (goodIn_of _ (by decide +kernel)) ggX6_moveTent_X6_isHere
set_option maxRecDepth 20000 in
theorem ggX6_moveTent_X6_isPoint : GoodIn wsX6_moveTent wsX6_isPoint := goodIn_r _ [17, 7, 8, 5, 9] (by decide +kernel) (by decide +kernel)
set_option maxRecDepth 20000 in
theorem gX6_moveTent_X6_isPoint : GoodIn wsX6_moveTent (va_wsS RX6 94 yX6_isPoint wsX6_isPoint) := goodIn_app (goodIn_of _ (by decide +kernel)) ggX6_moveTent_X6_isPoint
set_option maxRecDepth 20000 in
theorem ggX6_moveTent_X6_plotAt : GoodIn wsX6_moveTent wsX6_plotAt := goodIn_r _ [21, 22, 23, 24, 5, 25, 26, 27, 28, 29, 14, 30, 31, 32, 33, 34, 35, 36, 7, 8, 9, 37, 38, 39, 40, 41, 42, 43, 54, 55, 56, 57, 58, 59, 60, 61, 62, 63, 64, 65, 66, 67] (by decide +kernel) (by decide +kernel)
set_option maxRecDepth 20000 in
theorem gX6_moveTent_X6_plotAt : GoodIn wsX6_moveTent (wsV RX6 83 RX6 yX6_plotAt wsX6_plotAt) := goodIn_app (goodIn_of _ (by decide +kernel)) ggX6_moveTent_X6_plotAt
set_option maxRecDepth 20000 in
theorem ggX6_moveTent_X6_ofPlot : GoodIn wsX6_moveTent wsX6_ofPlot := goodIn_r _ [29, 14, 54, 55, 56, 57, 58, 59, 60, 61, 62, 63, 64, 65, 66, 67] (by decide +kernel) (by decide +kernel)
set_option maxRecDepth 20000 in
theorem gX6_moveTent_X6_ofPlot : GoodIn wsX6_moveTent (wsV RX6 46 RX6 yX6_ofPlot wsX6_ofPlot) := goodIn_app (goodIn_of _ (by decide +kernel)) ggX6_moveTent_X6_ofPlot
set_option maxRecDepth 20000 in
theorem ggX6_moveTent_X6_ofCamper : GoodIn wsX6_moveTent wsX6_ofCamper := goodIn_r _ [13, 14, 54, 55, 56, 57, 58, 59, 60, 61, 62, 63, 64, 65, 66, 67] (by decide +kernel) (by decide +kernel)
set_option maxRecDepth 20000 in
theorem gX6_moveTent_X6_ofCamper : GoodIn wsX6_moveTent (wsV RX6 39 RX6 yX6_ofCamper wsX6_ofCamper) := goodIn_app (goodIn_of _ (by decide +kernel)) ggX6_moveTent_X6_ofCamper
set_option maxRecDepth 20000 in
theorem ggX6_moveTent_X6_records : GoodIn wsX6_moveTent wsX6_records := goodIn_r _ [47, 48, 49, 14, 54, 55, 56, 57, 58, 59, 60, 61, 62, 63, 64, 65, 66, 67] (by decide +kernel) (by decide +kernel)
set_option maxRecDepth 20000 in
theorem gX6_moveTent_X6_records : GoodIn wsX6_moveTent (wsV RX6 100 RX6 yX6_records wsX6_records) := goodIn_app (goodIn_of _ (by decide +kernel)) ggX6_moveTent_X6_records
set_option maxRecDepth 20000 in
theorem ggX6_moveTent_X6_layCamper : GoodIn wsX6_moveTent wsX6_layCamper := goodIn_r _ [53, 14, 54, 55, 56, 57, 58, 59, 60, 61, 62, 63, 64, 65, 66, 67] (by decide +kernel) (by decide +kernel)
set_option maxRecDepth 20000 in
theorem gX6_moveTent_X6_layCamper : GoodIn wsX6_moveTent (wsV RX6 86 RX6 yX6_layCamper wsX6_layCamper) := goodIn_app (goodIn_of _ (by decide +kernel)) ggX6_moveTent_X6_layCamper
theorem dX6_moveTent_0 : decode cX6_moveTent 0 = .ok (.aload_n 0, 1) := by decide +kernel
theorem dX6_moveTent_1 : decode cX6_moveTent 1 = .ok (.iconst 0, 1) := by decide +kernel
theorem dX6_moveTent_2 : decode cX6_moveTent 2 = .ok (.putfield 31, 3) := by decide +kernel
theorem dX6_moveTent_5 : decode cX6_moveTent 5 = .ok (.aload_n 0, 1) := by decide +kernel
theorem dX6_moveTent_6 : decode cX6_moveTent 6 = .ok (.iload_n 1, 1) := by decide +kernel
theorem dX6_moveTent_7 : decode cX6_moveTent 7 = .ok (.invokevirtual 122, 3) := by decide +kernel
theorem dX6_moveTent_10 : decode cX6_moveTent 10 = .ok (.ifCond .eq 11, 3) := by decide +kernel
theorem dX6_moveTent_13 : decode cX6_moveTent 13 = .ok (.iload_n 2, 1) := by decide +kernel
theorem dX6_moveTent_14 : decode cX6_moveTent 14 = .ok (.iload_n 3, 1) := by decide +kernel
theorem dX6_moveTent_15 : decode cX6_moveTent 15 = .ok (.invokestatic 94, 3) := by decide +kernel
theorem dX6_moveTent_18 : decode cX6_moveTent 18 = .ok (.ifCond .ne 5, 3) := by decide +kernel
theorem dX6_moveTent_21 : decode cX6_moveTent 21 = .ok (.iconst (-1), 1) := by decide +kernel
theorem dX6_moveTent_22 : decode cX6_moveTent 22 = .ok (.ireturn, 1) := by decide +kernel
theorem dX6_moveTent_23 : decode cX6_moveTent 23 = .ok (.aload_n 0, 1) := by decide +kernel
theorem dX6_moveTent_24 : decode cX6_moveTent 24 = .ok (.iload_n 2, 1) := by decide +kernel
theorem dX6_moveTent_25 : decode cX6_moveTent 25 = .ok (.iload_n 3, 1) := by decide +kernel
theorem dX6_moveTent_26 : decode cX6_moveTent 26 = .ok (.invokevirtual 83, 3) := by decide +kernel
theorem dX6_moveTent_29 : decode cX6_moveTent 29 = .ok (.istore 4, 2) := by decide +kernel
theorem dX6_moveTent_31 : decode cX6_moveTent 31 = .ok (.aload_n 0, 1) := by decide +kernel
theorem dX6_moveTent_32 : decode cX6_moveTent 32 = .ok (.iload 4, 2) := by decide +kernel
theorem dX6_moveTent_34 : decode cX6_moveTent 34 = .ok (.iconst 3, 1) := by decide +kernel
theorem dX6_moveTent_35 : decode cX6_moveTent 35 = .ok (.invokevirtual 46, 3) := by decide +kernel
theorem dX6_moveTent_38 : decode cX6_moveTent 38 = .ok (.iload_n 1, 1) := by decide +kernel
theorem dX6_moveTent_39 : decode cX6_moveTent 39 = .ok (.iconst 1, 1) := by decide +kernel
theorem dX6_moveTent_40 : decode cX6_moveTent 40 = .ok (.iadd, 1) := by decide +kernel
theorem dX6_moveTent_41 : decode cX6_moveTent 41 = .ok (.if_icmp .eq 6, 3) := by decide +kernel
theorem dX6_moveTent_44 : decode cX6_moveTent 44 = .ok (.bipush (-4), 2) := by decide +kernel
theorem dX6_moveTent_46 : decode cX6_moveTent 46 = .ok (.ireturn, 1) := by decide +kernel
theorem dX6_moveTent_47 : decode cX6_moveTent 47 = .ok (.aload_n 0, 1) := by decide +kernel
theorem dX6_moveTent_48 : decode cX6_moveTent 48 = .ok (.iload_n 1, 1) := by decide +kernel
theorem dX6_moveTent_49 : decode cX6_moveTent 49 = .ok (.iconst 1, 1) := by decide +kernel
theorem dX6_moveTent_50 : decode cX6_moveTent 50 = .ok (.invokevirtual 39, 3) := by decide +kernel
theorem dX6_moveTent_53 : decode cX6_moveTent 53 = .ok (.iload_n 2, 1) := by decide +kernel
theorem dX6_moveTent_54 : decode cX6_moveTent 54 = .ok (.if_icmp .ne 16, 3) := by decide +kernel
theorem dX6_moveTent_57 : decode cX6_moveTent 57 = .ok (.aload_n 0, 1) := by decide +kernel
theorem dX6_moveTent_58 : decode cX6_moveTent 58 = .ok (.iload_n 1, 1) := by decide +kernel
theorem dX6_moveTent_59 : decode cX6_moveTent 59 = .ok (.iconst 2, 1) := by decide +kernel
theorem dX6_moveTent_60 : decode cX6_moveTent 60 = .ok (.invokevirtual 39, 3) := by decide +kernel
theorem dX6_moveTent_63 : decode cX6_moveTent 63 = .ok (.iload_n 3, 1) := by decide +kernel
theorem dX6_moveTent_64 : decode cX6_moveTent 64 = .ok (.if_icmp .ne 6, 3) := by decide +kernel
theorem dX6_moveTent_67 : decode cX6_moveTent 67 = .ok (.bipush (-5), 2) := by decide +kernel
theorem dX6_moveTent_69 : decode cX6_moveTent 69 = .ok (.ireturn, 1) := by decide +kernel
theorem dX6_moveTent_70 : decode cX6_moveTent 70 = .ok (.aload_n 0, 1) := by decide +kernel
theorem dX6_moveTent_71 : decode cX6_moveTent 71 = .ok (.invokevirtual 100, 3) := by decide +kernel
theorem dX6_moveTent_74 : decode cX6_moveTent 74 = .ok (.aload_n 0, 1) := by decide +kernel
theorem dX6_moveTent_75 : decode cX6_moveTent 75 = .ok (.iload_n 1, 1) := by decide +kernel
theorem dX6_moveTent_76 : decode cX6_moveTent 76 = .ok (.iconst 1, 1) := by decide +kernel
theorem dX6_moveTent_77 : decode cX6_moveTent 77 = .ok (.iload_n 2, 1) := by decide +kernel
theorem dX6_moveTent_78 : decode cX6_moveTent 78 = .ok (.invokevirtual 86, 3) := by decide +kernel
theorem dX6_moveTent_81 : decode cX6_moveTent 81 = .ok (.aload_n 0, 1) := by decide +kernel
theorem dX6_moveTent_82 : decode cX6_moveTent 82 = .ok (.iload_n 1, 1) := by decide +kernel
theorem dX6_moveTent_83 : decode cX6_moveTent 83 = .ok (.iconst 2, 1) := by decide +kernel
theorem dX6_moveTent_84 : decode cX6_moveTent 84 = .ok (.iload_n 3, 1) := by decide +kernel
theorem dX6_moveTent_85 : decode cX6_moveTent 85 = .ok (.invokevirtual 86, 3) := by decide +kernel
theorem dX6_moveTent_88 : decode cX6_moveTent 88 = .ok (.aload_n 0, 1) := by decide +kernel
theorem dX6_moveTent_89 : decode cX6_moveTent 89 = .ok (.iload 4, 2) := by decide +kernel
theorem dX6_moveTent_91 : decode cX6_moveTent 91 = .ok (.iconst 0, 1) := by decide +kernel
theorem dX6_moveTent_92 : decode cX6_moveTent 92 = .ok (.invokevirtual 46, 3) := by decide +kernel
theorem dX6_moveTent_95 : decode cX6_moveTent 95 = .ok (.ireturn, 1) := by decide +kernel
set_option maxRecDepth 20000 in
theorem ggX6_handOver_X6_isPoint : GoodIn wsX6_handOver wsX6_isPoint := goodIn_r _ [6, 7, 8, 5, 9] (by decide +kernel) (by decide +kernel)
set_option maxRecDepth 20000 in
theorem gX6_handOver_X6_isPoint : GoodIn wsX6_handOver (va_wsS RX6 94 yX6_isPoint wsX6_isPoint) := goodIn_app (goodIn_of _ (by decide +kernel)) ggX6_handOver_X6_isPoint
set_option maxRecDepth 20000 in
theorem ggX6_handOver_X6_isHere : GoodIn wsX6_handOver wsX6_isHere := goodIn_r _ [13, 7, 8, 5, 9, 14, 15, 16, 17, 2, 77, 78, 79, 80, 81, 82, 83, 84, 85, 86, 87, 88, 89, 90] (by decide +kernel) (by decide +kernel)
set_option maxRecDepth 20000 in
theorem gX6_handOver_X6_isHere : GoodIn wsX6_handOver (wsV RX6 122 RX6 yX6_isHere wsX6_isHere) := goodIn_app (goodIn_of _ (by decide +kernel)) ggX6_handOver_X6_isHere
set_option maxRecDepth 20000 in
theorem ggX6_handOver_X6_plotAt : GoodIn wsX6_handOver wsX6_plotAt := goodIn_r _ [21, 22, 23, 24, 5, 25, 26, 27, 28, 29, 2, 30, 31, 32, 33, 34, 35, 36, 7, 8, 9, 37, 38, 39, 40, 41, 42, 43, 77, 78, 79, 80, 81, 82, 83, 84, 85, 86, 87, 88, 89, 90] (by decide +kernel) (by decide +kernel)
set_option maxRecDepth 20000 in
theorem gX6_handOver_X6_plotAt : GoodIn wsX6_handOver (wsV RX6 83 RX6 yX6_plotAt wsX6_plotAt) := goodIn_app (goodIn_of _ (by decide +kernel)) ggX6_handOver_X6_plotAt

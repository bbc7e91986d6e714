theorem dX9_leaves_9 : decode cX9_leaves 9 = .ok (.getfield 33, 3) := by decide +kernel
theorem dX9_leaves_12 : decode cX9_leaves 12 = .ok (.iload_n 1, 1) := by decide +kernel
theorem dX9_leaves_13 : decode cX9_leaves 13 = .ok (.iload_n 2, 1) := by decide +kernel
theorem dX9_leaves_14 : decode cX9_leaves 14 = .ok (.invokevirtual 176, 3) := by decide +kernel
theorem dX9_leaves_17 : decode cX9_leaves 17 = .ok (.goto 5, 3) := by decide +kernel
theorem dX9_leaves_20 : decode cX9_leaves 20 = .ok (.bipush (-2), 2) := by decide +kernel
theorem dX9_leaves_22 : decode cX9_leaves 22 = .ok (.ireturn, 1) := by decide +kernel
set_option maxRecDepth 20000 in
theorem ggX9_squares_X9_isWithin : GoodIn wsX9_squares wsX9_isWithin := goodIn_r _ [5] (by decide +kernel) (by decide +kernel)
set_option maxRecDepth 20000 in
theorem gX9_squares_X9_isWithin : GoodIn wsX9_squares (va_wsS RX9 81 yX9_isWithin wsX9_isWithin) := goodIn_app (goodIn_of _ (by decide +kernel)) ggX9_squares_X9_isWithin
set_option maxRecDepth 20000 in
theorem ggX9_squares_X6_leastWinningTake : GoodIn wsX9_squares wsX6_leastWinningTake := goodIn_r _ [10, 11, 12, 13, 9, 14, 15, 16, 17, 18, 19, 20, 3, 4, 5, 21, 22, 23, 24, 32, 33] (by decide +kernel) (by decide +kernel)
set_option maxRecDepth 20000 in
theorem gX9_squares_X6_leastWinningTake : GoodIn wsX9_squares (wsV RX9 179 RX6 yX6_leastWinningTake wsX6_leastWinningTake) := goodIn_app (goodIn_of _ (by decide +kernel)) ggX9_squares_X6_leastWinningTake
theorem dX9_squares_0 : decode cX9_squares 0 = .ok (.iload_n 1, 1) := by decide +kernel
theorem dX9_squares_1 : decode cX9_squares 1 = .ok (.iconst 0, 1) := by decide +kernel
theorem dX9_squares_2 : decode cX9_squares 2 = .ok (.sipush 999, 3) := by decide +kernel
theorem dX9_squares_5 : decode cX9_squares 5 = .ok (.invokestatic 81, 3) := by decide +kernel
theorem dX9_squares_8 : decode cX9_squares 8 = .ok (.ifCond .eq 12, 3) := by decide +kernel
theorem dX9_squares_11 : decode cX9_squares 11 = .ok (.iload_n 2, 1) := by decide +kernel
theorem dX9_squares_12 : decode cX9_squares 12 = .ok (.iconst 0, 1) := by decide +kernel
theorem dX9_squares_13 : decode cX9_squares 13 = .ok (.iconst 1, 1) := by decide +kernel
theorem dX9_squares_14 : decode cX9_squares 14 = .ok (.invokestatic 81, 3) := by decide +kernel
theorem dX9_squares_17 : decode cX9_squares 17 = .ok (.ifCond .ne 6, 3) := by decide +kernel
theorem dX9_squares_20 : decode cX9_squares 20 = .ok (.bipush (-2), 2) := by decide +kernel
theorem dX9_squares_22 : decode cX9_squares 22 = .ok (.ireturn, 1) := by decide +kernel
theorem dX9_squares_23 : decode cX9_squares 23 = .ok (.aload_n 0, 1) := by decide +kernel
theorem dX9_squares_24 : decode cX9_squares 24 = .ok (.getfield 47, 3) := by decide +kernel
theorem dX9_squares_27 : decode cX9_squares 27 = .ok (.iload_n 1, 1) := by decide +kernel
theorem dX9_squares_28 : decode cX9_squares 28 = .ok (.invokevirtual 179, 3) := by decide +kernel
theorem dX9_squares_31 : decode cX9_squares 31 = .ok (.istore_n 3, 1) := by decide +kernel
theorem dX9_squares_32 : decode cX9_squares 32 = .ok (.iload_n 2, 1) := by decide +kernel
theorem dX9_squares_33 : decode cX9_squares 33 = .ok (.iconst 1, 1) := by decide +kernel
theorem dX9_squares_34 : decode cX9_squares 34 = .ok (.if_icmp .ne 5, 3) := by decide +kernel
theorem dX9_squares_37 : decode cX9_squares 37 = .ok (.iload_n 3, 1) := by decide +kernel
theorem dX9_squares_38 : decode cX9_squares 38 = .ok (.ireturn, 1) := by decide +kernel
theorem dX9_squares_39 : decode cX9_squares 39 = .ok (.iload_n 3, 1) := by decide +kernel
theorem dX9_squares_40 : decode cX9_squares 40 = .ok (.bipush (-6), 2) := by decide +kernel
theorem dX9_squares_42 : decode cX9_squares 42 = .ok (.if_icmp .ne 7, 3) := by decide +kernel
theorem dX9_squares_45 : decode cX9_squares 45 = .ok (.iconst 0, 1) := by decide +kernel
theorem dX9_squares_46 : decode cX9_squares 46 = .ok (.goto 4, 3) := by decide +kernel
theorem dX9_squares_49 : decode cX9_squares 49 = .ok (.iconst 1, 1) := by decide +kernel
theorem dX9_squares_50 : decode cX9_squares 50 = .ok (.ireturn, 1) := by decide +kernel
set_option maxRecDepth 20000 in
theorem ggX9_lot_X9_isWithin : GoodIn wsX9_lot wsX9_isWithin := goodIn_r _ [7] (by decide +kernel) (by decide +kernel)
set_option maxRecDepth 20000 in
theorem gX9_lot_X9_isWithin : GoodIn wsX9_lot (va_wsS RX9 81 yX9_isWithin wsX9_isWithin) := goodIn_app (goodIn_of _ (by decide +kernel)) ggX9_lot_X9_isWithin
set_option maxRecDepth 20000 in
theorem ggX9_lot_X9_isPlace : GoodIn wsX9_lot wsX9_isPlace := goodIn_r _ [10] (by decide +kernel) (by decide +kernel)
set_option maxRecDepth 20000 in
theorem gX9_lot_X9_isPlace : GoodIn wsX9_lot (va_wsS RX9 58 yX9_isPlace wsX9_isPlace) := goodIn_app (goodIn_of _ (by decide +kernel)) ggX9_lot_X9_isPlace
set_option maxRecDepth 20000 in
theorem ggX9_lot_X9_power : GoodIn wsX9_lot wsX9_power := goodIn_r _ [13] (by decide +kernel) (by decide +kernel)
set_option maxRecDepth 20000 in
theorem gX9_lot_X9_power : GoodIn wsX9_lot (va_wsS RX9 186 yX9_power wsX9_power) := goodIn_app (goodIn_of _ (by decide +kernel)) ggX9_lot_X9_power
set_option maxRecDepth 20000 in
theorem ggX9_lot_X9_waysTo : GoodIn wsX9_lot wsX9_waysTo := goodIn_r _ [16, 3, 17, 18] (by decide +kernel) (by decide +kernel)
set_option maxRecDepth 20000 in
theorem gX9_lot_X9_waysTo : GoodIn wsX9_lot (va_wsS RX9 190 yX9_waysTo wsX9_waysTo) := goodIn_app (goodIn_of _ (by decide +kernel)) ggX9_lot_X9_waysTo
set_option maxRecDepth 20000 in
theorem ggX9_lot_X9_commonDivisor : GoodIn wsX9_lot wsX9_commonDivisor := goodIn_r _ [21] (by decide +kernel) (by decide +kernel)
set_option maxRecDepth 20000 in
theorem gX9_lot_X9_commonDivisor : GoodIn wsX9_lot (va_wsS RX9 196 yX9_commonDivisor wsX9_commonDivisor) := goodIn_app (goodIn_of _ (by decide +kernel)) ggX9_lot_X9_commonDivisor
theorem dX9_lot_0 : decode cX9_lot 0 = .ok (.iload_n 1, 1) := by decide +kernel
theorem dX9_lot_1 : decode cX9_lot 1 = .ok (.iconst 0, 1) := by decide +kernel
theorem dX9_lot_2 : decode cX9_lot 2 = .ok (.bipush 12, 2) := by decide +kernel
theorem dX9_lot_4 : decode cX9_lot 4 = .ok (.invokestatic 81, 3) := by decide +kernel
theorem dX9_lot_7 : decode cX9_lot 7 = .ok (.ifCond .eq 29, 3) := by decide +kernel
theorem dX9_lot_10 : decode cX9_lot 10 = .ok (.iload_n 2, 1) := by decide +kernel
theorem dX9_lot_11 : decode cX9_lot 11 = .ok (.invokestatic 58, 3) := by decide +kernel
theorem dX9_lot_14 : decode cX9_lot 14 = .ok (.ifCond .eq 22, 3) := by decide +kernel
theorem dX9_lot_17 : decode cX9_lot 17 = .ok (.iload_n 3, 1) := by decide +kernel
theorem dX9_lot_18 : decode cX9_lot 18 = .ok (.iconst 0, 1) := by decide +kernel
theorem dX9_lot_19 : decode cX9_lot 19 = .ok (.iconst 1, 1) := by decide +kernel
theorem dX9_lot_20 : decode cX9_lot 20 = .ok (.invokestatic 81, 3) := by decide +kernel
theorem dX9_lot_23 : decode cX9_lot 23 = .ok (.ifCond .eq 13, 3) := by decide +kernel
theorem dX9_lot_26 : decode cX9_lot 26 = .ok (.iload 4, 2) := by decide +kernel
theorem dX9_lot_28 : decode cX9_lot 28 = .ok (.iconst 0, 1) := by decide +kernel
theorem dX9_lot_29 : decode cX9_lot 29 = .ok (.iconst 1, 1) := by decide +kernel
theorem dX9_lot_30 : decode cX9_lot 30 = .ok (.invokestatic 81, 3) := by decide +kernel
theorem dX9_lot_33 : decode cX9_lot 33 = .ok (.ifCond .ne 7, 3) := by decide +kernel
theorem dX9_lot_36 : decode cX9_lot 36 = .ok (.ldc2_w 182, 3) := by decide +kernel
theorem dX9_lot_39 : decode cX9_lot 39 = .ok (.lreturn, 1) := by decide +kernel
theorem dX9_lot_40 : decode cX9_lot 40 = .ok (.ldc2_w 184, 3) := by decide +kernel
theorem dX9_lot_43 : decode cX9_lot 43 = .ok (.iload_n 1, 1) := by decide +kernel
theorem dX9_lot_44 : decode cX9_lot 44 = .ok (.invokestatic 186, 3) := by decide +kernel
theorem dX9_lot_47 : decode cX9_lot 47 = .ok (.lstore 5, 2) := by decide +kernel
theorem dX9_lot_49 : decode cX9_lot 49 = .ok (.iload_n 3, 1) := by decide +kernel
theorem dX9_lot_50 : decode cX9_lot 50 = .ok (.ifCond .ne 11, 3) := by decide +kernel
theorem dX9_lot_53 : decode cX9_lot 53 = .ok (.iload_n 2, 1) := by decide +kernel
theorem dX9_lot_54 : decode cX9_lot 54 = .ok (.iload_n 1, 1) := by decide +kernel
theorem dX9_lot_55 : decode cX9_lot 55 = .ok (.invokestatic 190, 3) := by decide +kernel
theorem dX9_lot_58 : decode cX9_lot 58 = .ok (.goto 10, 3) := by decide +kernel
theorem dX9_lot_61 : decode cX9_lot 61 = .ok (.ldc2_w 194, 3) := by decide +kernel
theorem dX9_lot_64 : decode cX9_lot 64 = .ok (.iload_n 1, 1) := by decide +kernel
theorem dX9_lot_65 : decode cX9_lot 65 = .ok (.invokestatic 186, 3) := by decide +kernel
theorem dX9_lot_68 : decode cX9_lot 68 = .ok (.lstore 7, 2) := by decide +kernel
theorem dX9_lot_70 : decode cX9_lot 70 = .ok (.lload 7, 2) := by decide +kernel
theorem dX9_lot_72 : decode cX9_lot 72 = .ok (.lload 5, 2) := by decide +kernel
theorem dX9_lot_74 : decode cX9_lot 74 = .ok (.invokestatic 196, 3) := by decide +kernel
theorem dX9_lot_77 : decode cX9_lot 77 = .ok (.lstore 9, 2) := by decide +kernel
theorem dX9_lot_79 : decode cX9_lot 79 = .ok (.iload 4, 2) := by decide +kernel
theorem dX9_lot_81 : decode cX9_lot 81 = .ok (.ifCond .ne 8, 3) := by decide +kernel
theorem dX9_lot_84 : decode cX9_lot 84 = .ok (.lload 7, 2) := by decide +kernel
theorem dX9_lot_86 : decode cX9_lot 86 = .ok (.goto 5, 3) := by decide +kernel
theorem dX9_lot_89 : decode cX9_lot 89 = .ok (.lload 5, 2) := by decide +kernel
theorem dX9_lot_91 : decode cX9_lot 91 = .ok (.lstore 11, 2) := by decide +kernel
theorem dX9_lot_93 : decode cX9_lot 93 = .ok (.lload 9, 2) := by decide +kernel
theorem dX9_lot_95 : decode cX9_lot 95 = .ok (.lconst 0, 1) := by decide +kernel
theorem dX9_lot_96 : decode cX9_lot 96 = .ok (.lcmp, 1) := by decide +kernel
theorem dX9_lot_97 : decode cX9_lot 97 = .ok (.ifCond .le 11, 3) := by decide +kernel
theorem dX9_lot_100 : decode cX9_lot 100 = .ok (.lload 11, 2) := by decide +kernel
theorem dX9_lot_102 : decode cX9_lot 102 = .ok (.lload 9, 2) := by decide +kernel
theorem dX9_lot_104 : decode cX9_lot 104 = .ok (.ldiv, 1) := by decide +kernel
theorem dX9_lot_105 : decode cX9_lot 105 = .ok (.goto 5, 3) := by decide +kernel
theorem dX9_lot_108 : decode cX9_lot 108 = .ok (.lload 11, 2) := by decide +kernel
theorem dX9_lot_110 : decode cX9_lot 110 = .ok (.lreturn, 1) := by decide +kernel
set_option maxRecDepth 20000 in
theorem ggX9_year_X9_isWithin : GoodIn wsX9_year wsX9_isWithin := goodIn_r _ [6] (by decide +kernel) (by decide +kernel)
set_option maxRecDepth 20000 in
theorem gX9_year_X9_isWithin : GoodIn wsX9_year (va_wsS RX9 81 yX9_isWithin wsX9_isWithin) := goodIn_app (goodIn_of _ (by decide +kernel)) ggX9_year_X9_isWithin
set_option maxRecDepth 20000 in
theorem ggX9_year_X8_followDraws : GoodIn wsX9_year wsX8_followDraws := goodIn_r _ [11, 12, 13, 14, 15, 16, 17, 10, 18, 19, 20, 21, 22, 23, 24, 25, 26, 27, 28, 29, 30, 31, 32, 33, 34, 35, 36, 37, 38, 39, 40, 41, 42, 43, 44, 45, 46, 47, 48, 49, 50, 51, 52, 53, 54, 55, 56, 57, 58, 59, 60, 61, 62, 63, 64, 65, 66, 67, 68, 69, 70, 71, 72, 73, 74, 75, 76, 77, 78, 79, 5, 80, 81, 82, 83, 84, 85, 86, 87, 88, 89, 90, 91, 92, 93, 94, 95, 96, 97, 98, 99, 100, 101, 102, 103, 104, 105, 106, 107, 108, 109, 110, 111, 112, 113, 138, 139, 140, 141, 142, 143, 144, 145, 146, 147, 148, 149, 150, 151, 152, 153, 154, 155, 156] (by decide +kernel) (by decide +kernel)
set_option maxRecDepth 20000 in
theorem gX9_year_X8_followDraws : GoodIn wsX9_year (wsV RX9 200 RX8 yX8_followDraws wsX8_followDraws) := goodIn_app (goodIn_of _ (by decide +kernel)) ggX9_year_X8_followDraws
set_option maxRecDepth 20000 in
theorem ggX9_year_X8_ofYear : GoodIn wsX9_year wsX8_ofYear := goodIn_r _ [117, 14, 118, 68, 69, 28, 70, 31, 30, 71, 72, 73, 74, 119, 120, 121, 122, 35, 67, 123, 124, 125, 126, 127, 128, 129, 130, 76, 77, 78, 34, 79, 5, 80, 138, 139, 140, 141, 142, 143, 144, 145, 146, 147, 148, 149, 150, 151] (by decide +kernel) (by decide +kernel)
set_option maxRecDepth 20000 in
theorem gX9_year_X8_ofYear : GoodIn wsX9_year (wsV RX9 204 RX8 yX8_ofYear wsX8_ofYear) := goodIn_app (goodIn_of _ (by decide +kernel)) ggX9_year_X8_ofYear
theorem dX9_year_0 : decode cX9_year 0 = .ok (.iload_n 1, 1) := by decide +kernel
theorem dX9_year_1 : decode cX9_year 1 = .ok (.iconst 0, 1) := by decide +kernel
theorem dX9_year_2 : decode cX9_year 2 = .ok (.sipush 9999, 3) := by decide +kernel
theorem dX9_year_5 : decode cX9_year 5 = .ok (.invokestatic 81, 3) := by decide +kernel
theorem dX9_year_8 : decode cX9_year 8 = .ok (.ifCond .eq 22, 3) := by decide +kernel
theorem dX9_year_11 : decode cX9_year 11 = .ok (.iload_n 2, 1) := by decide +kernel
theorem dX9_year_12 : decode cX9_year 12 = .ok (.iconst 1, 1) := by decide +kernel
theorem dX9_year_13 : decode cX9_year 13 = .ok (.bipush 99, 2) := by decide +kernel
theorem dX9_year_15 : decode cX9_year 15 = .ok (.invokestatic 81, 3) := by decide +kernel
theorem dX9_year_18 : decode cX9_year 18 = .ok (.ifCond .eq 12, 3) := by decide +kernel
theorem dX9_year_21 : decode cX9_year 21 = .ok (.iload_n 3, 1) := by decide +kernel
theorem dX9_year_22 : decode cX9_year 22 = .ok (.iconst 0, 1) := by decide +kernel
theorem dX9_year_23 : decode cX9_year 23 = .ok (.iconst 2, 1) := by decide +kernel
theorem dX9_year_24 : decode cX9_year 24 = .ok (.invokestatic 81, 3) := by decide +kernel
theorem dX9_year_27 : decode cX9_year 27 = .ok (.ifCond .ne 6, 3) := by decide +kernel
theorem dX9_year_30 : decode cX9_year 30 = .ok (.bipush (-2), 2) := by decide +kernel
theorem dX9_year_32 : decode cX9_year 32 = .ok (.ireturn, 1) := by decide +kernel
theorem dX9_year_33 : decode cX9_year 33 = .ok (.aload_n 0, 1) := by decide +kernel
theorem dX9_year_34 : decode cX9_year 34 = .ok (.getfield 26, 3) := by decide +kernel
theorem dX9_year_37 : decode cX9_year 37 = .ok (.aload_n 0, 1) := by decide +kernel
theorem dX9_year_38 : decode cX9_year 38 = .ok (.getfield 19, 3) := by decide +kernel
theorem dX9_year_41 : decode cX9_year 41 = .ok (.iload_n 1, 1) := by decide +kernel
theorem dX9_year_42 : decode cX9_year 42 = .ok (.iload_n 2, 1) := by decide +kernel
theorem dX9_year_43 : decode cX9_year 43 = .ok (.invokevirtual 200, 3) := by decide +kernel
theorem dX9_year_46 : decode cX9_year 46 = .ok (.aload_n 0, 1) := by decide +kernel
theorem dX9_year_47 : decode cX9_year 47 = .ok (.getfield 26, 3) := by decide +kernel
theorem dX9_year_50 : decode cX9_year 50 = .ok (.iload_n 3, 1) := by decide +kernel
theorem dX9_year_51 : decode cX9_year 51 = .ok (.invokevirtual 204, 3) := by decide +kernel
theorem dX9_year_54 : decode cX9_year 54 = .ok (.ireturn, 1) := by decide +kernel
set_option maxRecDepth 20000 in
theorem ggX9_image_X9_isWithin : GoodIn wsX9_image wsX9_isWithin := goodIn_r _ [7] (by decide +kernel) (by decide +kernel)
set_option maxRecDepth 20000 in
theorem gX9_image_X9_isWithin : GoodIn wsX9_image (va_wsS RX9 81 yX9_isWithin wsX9_isWithin) := goodIn_app (goodIn_of _ (by decide +kernel)) ggX9_image_X9_isWithin
set_option maxRecDepth 20000 in
theorem ggX9_image_X1_keep : GoodIn wsX9_image wsX1_keep := goodIn_r _ [12, 13, 14, 15, 16, 17, 18, 19, 20, 21, 22, 23, 24, 25, 26, 27, 28, 29, 30, 31, 32, 33, 34, 35, 43, 44, 45, 46, 47, 48, 49, 50, 51, 52, 53, 54, 55] (by decide +kernel) (by decide +kernel)
set_option maxRecDepth 20000 in
theorem gX9_image_X1_keep : GoodIn wsX9_image (wsV RX9 207 RX1 yX1_keep wsX1_keep) := goodIn_app (goodIn_of _ (by decide +kernel)) ggX9_image_X1_keep
theorem dX9_image_0 : decode cX9_image 0 = .ok (.iload_n 1, 1) := by decide +kernel
theorem dX9_image_1 : decode cX9_image 1 = .ok (.iconst 0, 1) := by decide +kernel
theorem dX9_image_2 : decode cX9_image 2 = .ok (.iconst 1, 1) := by decide +kernel
theorem dX9_image_3 : decode cX9_image 3 = .ok (.invokestatic 81, 3) := by decide +kernel
theorem dX9_image_6 : decode cX9_image 6 = .ok (.ifCond .ne 6, 3) := by decide +kernel
theorem dX9_image_9 : decode cX9_image 9 = .ok (.bipush (-2), 2) := by decide +kernel
theorem dX9_image_11 : decode cX9_image 11 = .ok (.ireturn, 1) := by decide +kernel
theorem dX9_image_12 : decode cX9_image 12 = .ok (.aload_n 0, 1) := by decide +kernel
theorem dX9_image_13 : decode cX9_image 13 = .ok (.getfield 53, 3) := by decide +kernel
theorem dX9_image_16 : decode cX9_image 16 = .ok (.iload_n 1, 1) := by decide +kernel
theorem dX9_image_17 : decode cX9_image 17 = .ok (.aaload, 1) := by decide +kernel
theorem dX9_image_18 : decode cX9_image 18 = .ok (.aload_n 0, 1) := by decide +kernel
theorem dX9_image_19 : decode cX9_image 19 = .ok (.getfield 19, 3) := by decide +kernel
theorem dX9_image_22 : decode cX9_image 22 = .ok (.aload_n 0, 1) := by decide +kernel
theorem dX9_image_23 : decode cX9_image 23 = .ok (.getfield 33, 3) := by decide +kernel
theorem dX9_image_26 : decode cX9_image 26 = .ok (.invokevirtual 207, 3) := by decide +kernel
theorem dX9_image_29 : decode cX9_image 29 = .ok (.iconst 1, 1) := by decide +kernel
theorem dX9_image_30 : decode cX9_image 30 = .ok (.ireturn, 1) := by decide +kernel
set_option maxRecDepth 20000 in
theorem ggX9_restore_X9_isWithin : GoodIn wsX9_restore wsX9_isWithin := goodIn_r _ [8] (by decide +kernel) (by decide +kernel)
set_option maxRecDepth 20000 in
theorem gX9_restore_X9_isWithin : GoodIn wsX9_restore (va_wsS RX9 81 yX9_isWithin wsX9_isWithin) := goodIn_app (goodIn_of _ (by decide +kernel)) ggX9_restore_X9_isWithin
set_option maxRecDepth 20000 in
theorem ggX9_restore_X1_bringBack : GoodIn wsX9_restore wsX1_bringBack := goodIn_r _ [13, 14, 15, 16, 17, 18, 19, 20, 21, 22, 23, 24, 25, 26, 27, 28, 29, 30, 31, 32, 33, 34, 35, 43, 44, 45, 46, 47, 48, 49, 50, 51, 52, 53, 54, 55] (by decide +kernel) (by decide +kernel)
set_option maxRecDepth 20000 in
theorem gX9_restore_X1_bringBack : GoodIn wsX9_restore (wsV RX9 215 RX1 yX1_bringBack wsX1_bringBack) := goodIn_app (goodIn_of _ (by decide +kernel)) ggX9_restore_X1_bringBack
theorem dX9_restore_0 : decode cX9_restore 0 = .ok (.iload_n 1, 1) := by decide +kernel
theorem dX9_restore_1 : decode cX9_restore 1 = .ok (.iconst 0, 1) := by decide +kernel
theorem dX9_restore_2 : decode cX9_restore 2 = .ok (.iconst 1, 1) := by decide +kernel
theorem dX9_restore_3 : decode cX9_restore 3 = .ok (.invokestatic 81, 3) := by decide +kernel
theorem dX9_restore_6 : decode cX9_restore 6 = .ok (.ifCond .ne 6, 3) := by decide +kernel
theorem dX9_restore_9 : decode cX9_restore 9 = .ok (.bipush (-2), 2) := by decide +kernel
theorem dX9_restore_11 : decode cX9_restore 11 = .ok (.ireturn, 1) := by decide +kernel
theorem dX9_restore_12 : decode cX9_restore 12 = .ok (.aload_n 0, 1) := by decide +kernel
theorem dX9_restore_13 : decode cX9_restore 13 = .ok (.getfield 53, 3) := by decide +kernel
theorem dX9_restore_16 : decode cX9_restore 16 = .ok (.iload_n 1, 1) := by decide +kernel
theorem dX9_restore_17 : decode cX9_restore 17 = .ok (.aaload, 1) := by decide +kernel
theorem dX9_restore_18 : decode cX9_restore 18 = .ok (.getfield 211, 3) := by decide +kernel
theorem dX9_restore_21 : decode cX9_restore 21 = .ok (.ifCond .ne 6, 3) := by decide +kernel
theorem dX9_restore_24 : decode cX9_restore 24 = .ok (.bipush (-3), 2) := by decide +kernel
theorem dX9_restore_26 : decode cX9_restore 26 = .ok (.ireturn, 1) := by decide +kernel
theorem dX9_restore_27 : decode cX9_restore 27 = .ok (.aload_n 0, 1) := by decide +kernel
theorem dX9_restore_28 : decode cX9_restore 28 = .ok (.getfield 53, 3) := by decide +kernel
theorem dX9_restore_31 : decode cX9_restore 31 = .ok (.iload_n 1, 1) := by decide +kernel
theorem dX9_restore_32 : decode cX9_restore 32 = .ok (.aaload, 1) := by decide +kernel
theorem dX9_restore_33 : decode cX9_restore 33 = .ok (.aload_n 0, 1) := by decide +kernel
theorem dX9_restore_34 : decode cX9_restore 34 = .ok (.getfield 19, 3) := by decide +kernel
theorem dX9_restore_37 : decode cX9_restore 37 = .ok (.aload_n 0, 1) := by decide +kernel
theorem dX9_restore_38 : decode cX9_restore 38 = .ok (.getfield 33, 3) := by decide +kernel
theorem dX9_restore_41 : decode cX9_restore 41 = .ok (.invokevirtual 215, 3) := by decide +kernel
theorem dX9_restore_44 : decode cX9_restore 44 = .ok (.iconst 1, 1) := by decide +kernel
theorem dX9_restore_45 : decode cX9_restore 45 = .ok (.ireturn, 1) := by decide +kernel
set_option maxRecDepth 20000 in
theorem ggX9_told_X2_toRow : GoodIn wsX9_told wsX2_toRow := goodIn_r _ [11, 12, 13, 10, 14] (by decide +kernel) (by decide +kernel)
set_option maxRecDepth 20000 in
theorem gX9_told_X2_toRow : GoodIn wsX9_told (va_wsS RX9 72 yX2_toRow wsX2_toRow) := goodIn_app (goodIn_of _ (by decide +kernel)) ggX9_told_X2_toRow
set_option maxRecDepth 20000 in
theorem ggX9_told_X7_peaCupOrNone : GoodIn wsX9_told wsX7_peaCupOrNone := goodIn_r _ [19, 20, 53, 54, 55, 56, 57, 58] (by decide +kernel) (by decide +kernel)
set_option maxRecDepth 20000 in
theorem gX9_told_X7_peaCupOrNone : GoodIn wsX9_told (wsV RX9 218 RX7 yX7_peaCupOrNone wsX7_peaCupOrNone) := goodIn_app (goodIn_of _ (by decide +kernel)) ggX9_told_X7_peaCupOrNone
set_option maxRecDepth 20000 in
theorem ggX9_told_X9_toldOfWatcher : GoodIn wsX9_told wsX9_toldOfWatcher := goodIn_r _ [25, 3, 26, 27, 24, 28, 29, 30, 31, 18, 32, 33, 34, 35, 36, 37, 38, 39, 40, 41, 42, 43, 44, 45, 46, 47, 48, 49, 50, 53, 54, 55, 56, 57, 58] (by decide +kernel) (by decide +kernel)
set_option maxRecDepth 20000 in
theorem gX9_told_X9_toldOfWatcher : GoodIn wsX9_told (wsV RX9 224 RX9 yX9_toldOfWatcher wsX9_toldOfWatcher) := goodIn_app (goodIn_of _ (by decide +kernel)) ggX9_told_X9_toldOfWatcher
theorem dX9_told_0 : decode cX9_told 0 = .ok (.iload_n 1, 1) := by decide +kernel
theorem dX9_told_1 : decode cX9_told 1 = .ok (.tableswitch 78 0 4 #[35, 43, 54, 62, 70], 35) := by decide +kernel
theorem dX9_told_36 : decode cX9_told 36 = .ok (.aload_n 0, 1) := by decide +kernel
theorem dX9_told_37 : decode cX9_told 37 = .ok (.getfield 10, 3) := by decide +kernel
theorem dX9_told_40 : decode cX9_told 40 = .ok (.getfield 95, 3) := by decide +kernel
theorem dX9_told_43 : decode cX9_told 43 = .ok (.ireturn, 1) := by decide +kernel
theorem dX9_told_44 : decode cX9_told 44 = .ok (.aload_n 0, 1) := by decide +kernel
theorem dX9_told_45 : decode cX9_told 45 = .ok (.getfield 19, 3) := by decide +kernel
theorem dX9_told_48 : decode cX9_told 48 = .ok (.getfield 68, 3) := by decide +kernel
theorem dX9_told_51 : decode cX9_told 51 = .ok (.invokestatic 72, 3) := by decide +kernel
theorem dX9_told_54 : decode cX9_told 54 = .ok (.ireturn, 1) := by decide +kernel
theorem dX9_told_55 : decode cX9_told 55 = .ok (.aload_n 0, 1) := by decide +kernel
theorem dX9_told_56 : decode cX9_told 56 = .ok (.getfield 19, 3) := by decide +kernel
theorem dX9_told_59 : decode cX9_told 59 = .ok (.invokevirtual 218, 3) := by decide +kernel
theorem dX9_told_62 : decode cX9_told 62 = .ok (.ireturn, 1) := by decide +kernel
theorem dX9_told_63 : decode cX9_told 63 = .ok (.aload_n 0, 1) := by decide +kernel
theorem dX9_told_64 : decode cX9_told 64 = .ok (.getfield 19, 3) := by decide +kernel
theorem dX9_told_67 : decode cX9_told 67 = .ok (.getfield 221, 3) := by decide +kernel
theorem dX9_told_70 : decode cX9_told 70 = .ok (.ireturn, 1) := by decide +kernel
theorem dX9_told_71 : decode cX9_told 71 = .ok (.aload_n 0, 1) := by decide +kernel
theorem dX9_told_72 : decode cX9_told 72 = .ok (.getfield 33, 3) := by decide +kernel
theorem dX9_told_75 : decode cX9_told 75 = .ok (.getfield 169, 3) := by decide +kernel
theorem dX9_told_78 : decode cX9_told 78 = .ok (.ireturn, 1) := by decide +kernel
theorem dX9_told_79 : decode cX9_told 79 = .ok (.aload_n 0, 1) := by decide +kernel
theorem dX9_told_80 : decode cX9_told 80 = .ok (.iload_n 1, 1) := by decide +kernel
theorem dX9_told_81 : decode cX9_told 81 = .ok (.invokevirtual 224, 3) := by decide +kernel
theorem dX9_told_84 : decode cX9_told 84 = .ok (.ireturn, 1) := by decide +kernel
set_option maxRecDepth 20000 in
theorem ggX9_toldOfWatcher_X9_isWatcher : GoodIn wsX9_toldOfWatcher wsX9_isWatcher := goodIn_r _ [5] (by decide +kernel) (by decide +kernel)
set_option maxRecDepth 20000 in
theorem gX9_toldOfWatcher_X9_isWatcher : GoodIn wsX9_toldOfWatcher (va_wsS RX9 78 yX9_isWatcher wsX9_isWatcher) := goodIn_app (goodIn_of _ (by decide +kernel)) ggX9_toldOfWatcher_X9_isWatcher
set_option maxRecDepth 20000 in
theorem ggX9_toldOfWatcher_X7_eyesOf : GoodIn wsX9_toldOfWatcher wsX7_eyesOf := goodIn_r _ [10, 11, 3, 4, 5, 29, 30, 31, 32, 33, 34] (by decide +kernel) (by decide +kernel)
set_option maxRecDepth 20000 in
theorem gX9_toldOfWatcher_X7_eyesOf : GoodIn wsX9_toldOfWatcher (wsV RX9 227 RX7 yX7_eyesOf wsX7_eyesOf) := goodIn_app (goodIn_of _ (by decide +kernel)) ggX9_toldOfWatcher_X7_eyesOf
set_option maxRecDepth 20000 in
theorem ggX9_toldOfWatcher_X7_coinOf : GoodIn wsX9_toldOfWatcher wsX7_coinOf := goodIn_r _ [15, 16, 3, 4, 5, 29, 30, 31, 32, 33, 34] (by decide +kernel) (by decide +kernel)
set_option maxRecDepth 20000 in
theorem gX9_toldOfWatcher_X7_coinOf : GoodIn wsX9_toldOfWatcher (wsV RX9 85 RX7 yX7_coinOf wsX7_coinOf) := goodIn_app (goodIn_of _ (by decide +kernel)) ggX9_toldOfWatcher_X7_coinOf
set_option maxRecDepth 20000 in
theorem ggX9_toldOfWatcher_X7_thinksOf : GoodIn wsX9_toldOfWatcher wsX7_thinksOf := goodIn_r _ [20, 21, 3, 4, 5, 29, 30, 31, 32, 33, 34] (by decide +kernel) (by decide +kernel)
set_option maxRecDepth 20000 in
theorem gX9_toldOfWatcher_X7_thinksOf : GoodIn wsX9_toldOfWatcher (wsV RX9 230 RX7 yX7_thinksOf wsX7_thinksOf) := goodIn_app (goodIn_of _ (by decide +kernel)) ggX9_toldOfWatcher_X7_thinksOf
theorem dX9_toldOfWatcher_0 : decode cX9_toldOfWatcher 0 = .ok (.iload_n 1, 1) := by decide +kernel
theorem dX9_toldOfWatcher_1 : decode cX9_toldOfWatcher 1 = .ok (.bipush 10, 2) := by decide +kernel
theorem dX9_toldOfWatcher_3 : decode cX9_toldOfWatcher 3 = .ok (.irem, 1) := by decide +kernel
theorem dX9_toldOfWatcher_4 : decode cX9_toldOfWatcher 4 = .ok (.istore_n 2, 1) := by decide +kernel
theorem dX9_toldOfWatcher_5 : decode cX9_toldOfWatcher 5 = .ok (.iload_n 1, 1) := by decide +kernel
theorem dX9_toldOfWatcher_6 : decode cX9_toldOfWatcher 6 = .ok (.bipush 10, 2) := by decide +kernel
theorem dX9_toldOfWatcher_8 : decode cX9_toldOfWatcher 8 = .ok (.if_icmp .lt 10, 3) := by decide +kernel
theorem dX9_toldOfWatcher_11 : decode cX9_toldOfWatcher 11 = .ok (.iload_n 2, 1) := by decide +kernel
theorem dX9_toldOfWatcher_12 : decode cX9_toldOfWatcher 12 = .ok (.invokestatic 78, 3) := by decide +kernel
theorem dX9_toldOfWatcher_15 : decode cX9_toldOfWatcher 15 = .ok (.ifCond .ne 6, 3) := by decide +kernel
theorem dX9_toldOfWatcher_18 : decode cX9_toldOfWatcher 18 = .ok (.bipush (-2), 2) := by decide +kernel
theorem dX9_toldOfWatcher_20 : decode cX9_toldOfWatcher 20 = .ok (.ireturn, 1) := by decide +kernel
theorem dX9_toldOfWatcher_21 : decode cX9_toldOfWatcher 21 = .ok (.iload_n 1, 1) := by decide +kernel
theorem dX9_toldOfWatcher_22 : decode cX9_toldOfWatcher 22 = .ok (.bipush 10, 2) := by decide +kernel
theorem dX9_toldOfWatcher_24 : decode cX9_toldOfWatcher 24 = .ok (.idiv, 1) := by decide +kernel
theorem dX9_toldOfWatcher_25 : decode cX9_toldOfWatcher 25 = .ok (.tableswitch 54 1 3 #[27, 36, 45], 27) := by decide +kernel
theorem dX9_toldOfWatcher_52 : decode cX9_toldOfWatcher 52 = .ok (.aload_n 0, 1) := by decide +kernel
theorem dX9_toldOfWatcher_53 : decode cX9_toldOfWatcher 53 = .ok (.getfield 19, 3) := by decide +kernel
theorem dX9_toldOfWatcher_56 : decode cX9_toldOfWatcher 56 = .ok (.iload_n 2, 1) := by decide +kernel
theorem dX9_toldOfWatcher_57 : decode cX9_toldOfWatcher 57 = .ok (.invokevirtual 227, 3) := by decide +kernel
theorem dX9_toldOfWatcher_60 : decode cX9_toldOfWatcher 60 = .ok (.ireturn, 1) := by decide +kernel
theorem dX9_toldOfWatcher_61 : decode cX9_toldOfWatcher 61 = .ok (.aload_n 0, 1) := by decide +kernel
theorem dX9_toldOfWatcher_62 : decode cX9_toldOfWatcher 62 = .ok (.getfield 19, 3) := by decide +kernel
theorem dX9_toldOfWatcher_65 : decode cX9_toldOfWatcher 65 = .ok (.iload_n 2, 1) := by decide +kernel
theorem dX9_toldOfWatcher_66 : decode cX9_toldOfWatcher 66 = .ok (.invokevirtual 85, 3) := by decide +kernel
theorem dX9_toldOfWatcher_69 : decode cX9_toldOfWatcher 69 = .ok (.ireturn, 1) := by decide +kernel
theorem dX9_toldOfWatcher_70 : decode cX9_toldOfWatcher 70 = .ok (.aload_n 0, 1) := by decide +kernel
theorem dX9_toldOfWatcher_71 : decode cX9_toldOfWatcher 71 = .ok (.getfield 19, 3) := by decide +kernel
theorem dX9_toldOfWatcher_74 : decode cX9_toldOfWatcher 74 = .ok (.iload_n 2, 1) := by decide +kernel
theorem dX9_toldOfWatcher_75 : decode cX9_toldOfWatcher 75 = .ok (.invokevirtual 230, 3) := by decide +kernel
theorem dX9_toldOfWatcher_78 : decode cX9_toldOfWatcher 78 = .ok (.ireturn, 1) := by decide +kernel
theorem dX9_toldOfWatcher_79 : decode cX9_toldOfWatcher 79 = .ok (.bipush (-2), 2) := by decide +kernel
theorem dX9_toldOfWatcher_81 : decode cX9_toldOfWatcher 81 = .ok (.ireturn, 1) := by decide +kernel
theorem dX9_isWithin_0 : decode cX9_isWithin 0 = .ok (.iload_n 0, 1) := by decide +kernel
theorem dX9_isWithin_1 : decode cX9_isWithin 1 = .ok (.iload_n 1, 1) := by decide +kernel
theorem dX9_isWithin_2 : decode cX9_isWithin 2 = .ok (.if_icmp .lt 12, 3) := by decide +kernel
theorem dX9_isWithin_5 : decode cX9_isWithin 5 = .ok (.iload_n 0, 1) := by decide +kernel
theorem dX9_isWithin_6 : decode cX9_isWithin 6 = .ok (.iload_n 2, 1) := by decide +kernel
theorem dX9_isWithin_7 : decode cX9_isWithin 7 = .ok (.if_icmp .gt 7, 3) := by decide +kernel
theorem dX9_isWithin_10 : decode cX9_isWithin 10 = .ok (.iconst 1, 1) := by decide +kernel
theorem dX9_isWithin_11 : decode cX9_isWithin 11 = .ok (.goto 4, 3) := by decide +kernel
theorem dX9_isWithin_14 : decode cX9_isWithin 14 = .ok (.iconst 0, 1) := by decide +kernel
theorem dX9_isWithin_15 : decode cX9_isWithin 15 = .ok (.ireturn, 1) := by decide +kernel
theorem dX9_isPlace_0 : decode cX9_isPlace 0 = .ok (.iload_n 0, 1) := by decide +kernel
theorem dX9_isPlace_1 : decode cX9_isPlace 1 = .ok (.ifCond .lt 13, 3) := by decide +kernel
theorem dX9_isPlace_4 : decode cX9_isPlace 4 = .ok (.iload_n 0, 1) := by decide +kernel
theorem dX9_isPlace_5 : decode cX9_isPlace 5 = .ok (.bipush 6, 2) := by decide +kernel
theorem dX9_isPlace_7 : decode cX9_isPlace 7 = .ok (.if_icmp .ge 7, 3) := by decide +kernel
theorem dX9_isPlace_10 : decode cX9_isPlace 10 = .ok (.iconst 1, 1) := by decide +kernel
theorem dX9_isPlace_11 : decode cX9_isPlace 11 = .ok (.goto 4, 3) := by decide +kernel
theorem dX9_isPlace_14 : decode cX9_isPlace 14 = .ok (.iconst 0, 1) := by decide +kernel
theorem dX9_isPlace_15 : decode cX9_isPlace 15 = .ok (.ireturn, 1) := by decide +kernel
theorem dX9_isWatcher_0 : decode cX9_isWatcher 0 = .ok (.iload_n 0, 1) := by decide +kernel
theorem dX9_isWatcher_1 : decode cX9_isWatcher 1 = .ok (.ifCond .lt 12, 3) := by decide +kernel
theorem dX9_isWatcher_4 : decode cX9_isWatcher 4 = .ok (.iload_n 0, 1) := by decide +kernel
theorem dX9_isWatcher_5 : decode cX9_isWatcher 5 = .ok (.iconst 4, 1) := by decide +kernel
theorem dX9_isWatcher_6 : decode cX9_isWatcher 6 = .ok (.if_icmp .ge 7, 3) := by decide +kernel
theorem dX9_isWatcher_9 : decode cX9_isWatcher 9 = .ok (.iconst 1, 1) := by decide +kernel
theorem dX9_isWatcher_10 : decode cX9_isWatcher 10 = .ok (.goto 4, 3) := by decide +kernel
theorem dX9_isWatcher_13 : decode cX9_isWatcher 13 = .ok (.iconst 0, 1) := by decide +kernel
theorem dX9_isWatcher_14 : decode cX9_isWatcher 14 = .ok (.ireturn, 1) := by decide +kernel
theorem dX9_power_0 : decode cX9_power 0 = .ok (.lconst 1, 1) := by decide +kernel
theorem dX9_power_1 : decode cX9_power 1 = .ok (.lstore_n 3, 1) := by decide +kernel
theorem dX9_power_2 : decode cX9_power 2 = .ok (.iconst 0, 1) := by decide +kernel
theorem dX9_power_3 : decode cX9_power 3 = .ok (.istore 5, 2) := by decide +kernel
theorem dX9_power_5 : decode cX9_power 5 = .ok (.iload 5, 2) := by decide +kernel
theorem dX9_power_7 : decode cX9_power 7 = .ok (.iload_n 2, 1) := by decide +kernel
theorem dX9_power_8 : decode cX9_power 8 = .ok (.if_icmp .ge 13, 3) := by decide +kernel
theorem dX9_power_11 : decode cX9_power 11 = .ok (.lload_n 3, 1) := by decide +kernel
theorem dX9_power_12 : decode cX9_power 12 = .ok (.lload_n 0, 1) := by decide +kernel
theorem dX9_power_13 : decode cX9_power 13 = .ok (.lmul, 1) := by decide +kernel
theorem dX9_power_14 : decode cX9_power 14 = .ok (.lstore_n 3, 1) := by decide +kernel
theorem dX9_power_15 : decode cX9_power 15 = .ok (.iinc 5 1, 3) := by decide +kernel
theorem dX9_power_18 : decode cX9_power 18 = .ok (.goto (-13), 3) := by decide +kernel
theorem dX9_power_21 : decode cX9_power 21 = .ok (.lload_n 3, 1) := by decide +kernel
theorem dX9_power_22 : decode cX9_power 22 = .ok (.lreturn, 1) := by decide +kernel
theorem dX9_waysTo_0 : decode cX9_waysTo 0 = .ok (.lconst 1, 1) := by decide +kernel
theorem dX9_waysTo_1 : decode cX9_waysTo 1 = .ok (.lstore_n 2, 1) := by decide +kernel
theorem dX9_waysTo_2 : decode cX9_waysTo 2 = .ok (.lconst 0, 1) := by decide +kernel
theorem dX9_waysTo_3 : decode cX9_waysTo 3 = .ok (.lstore 4, 2) := by decide +kernel
theorem dX9_waysTo_5 : decode cX9_waysTo 5 = .ok (.iconst 0, 1) := by decide +kernel
theorem dX9_waysTo_6 : decode cX9_waysTo 6 = .ok (.istore 6, 2) := by decide +kernel
theorem dX9_waysTo_8 : decode cX9_waysTo 8 = .ok (.iload 6, 2) := by decide +kernel
theorem dX9_waysTo_10 : decode cX9_waysTo 10 = .ok (.iload_n 1, 1) := by decide +kernel
theorem dX9_waysTo_11 : decode cX9_waysTo 11 = .ok (.if_icmp .ge 36, 3) := by decide +kernel
theorem dX9_waysTo_14 : decode cX9_waysTo 14 = .ok (.ldc2_w 194, 3) := by decide +kernel
theorem dX9_waysTo_17 : decode cX9_waysTo 17 = .ok (.lload_n 2, 1) := by decide +kernel
theorem dX9_waysTo_18 : decode cX9_waysTo 18 = .ok (.lmul, 1) := by decide +kernel
theorem dX9_waysTo_19 : decode cX9_waysTo 19 = .ok (.ldc2_w 233, 3) := by decide +kernel
theorem dX9_waysTo_22 : decode cX9_waysTo 22 = .ok (.lload 4, 2) := by decide +kernel
theorem dX9_waysTo_24 : decode cX9_waysTo 24 = .ok (.lmul, 1) := by decide +kernel
theorem dX9_waysTo_25 : decode cX9_waysTo 25 = .ok (.ladd, 1) := by decide +kernel
theorem dX9_waysTo_26 : decode cX9_waysTo 26 = .ok (.lstore 7, 2) := by decide +kernel
theorem dX9_waysTo_28 : decode cX9_waysTo 28 = .ok (.lload_n 2, 1) := by decide +kernel
theorem dX9_waysTo_29 : decode cX9_waysTo 29 = .ok (.ldc2_w 235, 3) := by decide +kernel
theorem dX9_waysTo_32 : decode cX9_waysTo 32 = .ok (.lload 4, 2) := by decide +kernel
theorem dX9_waysTo_34 : decode cX9_waysTo 34 = .ok (.lmul, 1) := by decide +kernel
theorem dX9_waysTo_35 : decode cX9_waysTo 35 = .ok (.ladd, 1) := by decide +kernel
theorem dX9_waysTo_36 : decode cX9_waysTo 36 = .ok (.lstore 4, 2) := by decide +kernel
theorem dX9_waysTo_38 : decode cX9_waysTo 38 = .ok (.lload 7, 2) := by decide +kernel
theorem dX9_waysTo_40 : decode cX9_waysTo 40 = .ok (.lstore_n 2, 1) := by decide +kernel
theorem dX9_waysTo_41 : decode cX9_waysTo 41 = .ok (.iinc 6 1, 3) := by decide +kernel
theorem dX9_waysTo_44 : decode cX9_waysTo 44 = .ok (.goto (-36), 3) := by decide +kernel
theorem dX9_waysTo_47 : decode cX9_waysTo 47 = .ok (.iload_n 0, 1) := by decide +kernel
theorem dX9_waysTo_48 : decode cX9_waysTo 48 = .ok (.ifCond .ne 7, 3) := by decide +kernel
theorem dX9_waysTo_51 : decode cX9_waysTo 51 = .ok (.lload_n 2, 1) := by decide +kernel
theorem dX9_waysTo_52 : decode cX9_waysTo 52 = .ok (.goto 5, 3) := by decide +kernel
theorem dX9_waysTo_55 : decode cX9_waysTo 55 = .ok (.lload 4, 2) := by decide +kernel
theorem dX9_waysTo_57 : decode cX9_waysTo 57 = .ok (.lreturn, 1) := by decide +kernel
theorem dX9_commonDivisor_0 : decode cX9_commonDivisor 0 = .ok (.iconst 0, 1) := by decide +kernel
theorem dX9_commonDivisor_1 : decode cX9_commonDivisor 1 = .ok (.istore 4, 2) := by decide +kernel
theorem dX9_commonDivisor_3 : decode cX9_commonDivisor 3 = .ok (.iload 4, 2) := by decide +kernel
theorem dX9_commonDivisor_5 : decode cX9_commonDivisor 5 = .ok (.sipush 200, 3) := by decide +kernel
theorem dX9_commonDivisor_8 : decode cX9_commonDivisor 8 = .ok (.if_icmp .ge 25, 3) := by decide +kernel
theorem dX9_commonDivisor_11 : decode cX9_commonDivisor 11 = .ok (.lload_n 2, 1) := by decide +kernel
theorem dX9_commonDivisor_12 : decode cX9_commonDivisor 12 = .ok (.lconst 0, 1) := by decide +kernel
theorem dX9_commonDivisor_13 : decode cX9_commonDivisor 13 = .ok (.lcmp, 1) := by decide +kernel
theorem dX9_commonDivisor_14 : decode cX9_commonDivisor 14 = .ok (.ifCond .eq 19, 3) := by decide +kernel
theorem dX9_commonDivisor_17 : decode cX9_commonDivisor 17 = .ok (.lload_n 0, 1) := by decide +kernel
theorem dX9_commonDivisor_18 : decode cX9_commonDivisor 18 = .ok (.lload_n 2, 1) := by decide +kernel
theorem dX9_commonDivisor_19 : decode cX9_commonDivisor 19 = .ok (.lrem, 1) := by decide +kernel
theorem dX9_commonDivisor_20 : decode cX9_commonDivisor 20 = .ok (.lstore 5, 2) := by decide +kernel
theorem dX9_commonDivisor_22 : decode cX9_commonDivisor 22 = .ok (.lload_n 2, 1) := by decide +kernel
theorem dX9_commonDivisor_23 : decode cX9_commonDivisor 23 = .ok (.lstore_n 0, 1) := by decide +kernel
theorem dX9_commonDivisor_24 : decode cX9_commonDivisor 24 = .ok (.lload 5, 2) := by decide +kernel
theorem dX9_commonDivisor_26 : decode cX9_commonDivisor 26 = .ok (.lstore_n 2, 1) := by decide +kernel
theorem dX9_commonDivisor_27 : decode cX9_commonDivisor 27 = .ok (.iinc 4 1, 3) := by decide +kernel
theorem dX9_commonDivisor_30 : decode cX9_commonDivisor 30 = .ok (.goto (-27), 3) := by decide +kernel
theorem dX9_commonDivisor_33 : decode cX9_commonDivisor 33 = .ok (.lload_n 0, 1) := by decide +kernel
theorem dX9_commonDivisor_34 : decode cX9_commonDivisor 34 = .ok (.lreturn, 1) := by decide +kernel
theorem dX10_init_0 : decode cX10_init 0 = .ok (.aload_n 0, 1) := by decide +kernel
theorem dX10_init_1 : decode cX10_init 1 = .ok (.invokespecial 1, 3) := by decide +kernel
theorem dX10_init_4 : decode cX10_init 4 = .ok (.aload_n 0, 1) := by decide +kernel
theorem dX10_init_5 : decode cX10_init 5 = .ok (.bipush 6, 2) := by decide +kernel
theorem dX10_init_7 : decode cX10_init 7 = .ok (.newarray .int, 2) := by decide +kernel
theorem dX10_init_9 : decode cX10_init 9 = .ok (.putfield 7, 3) := by decide +kernel
theorem dX10_init_12 : decode cX10_init 12 = .ok (.aload_n 0, 1) := by decide +kernel
theorem dX10_init_13 : decode cX10_init 13 = .ok (.iconst 4, 1) := by decide +kernel
theorem dX10_init_14 : decode cX10_init 14 = .ok (.newarray .int, 2) := by decide +kernel
theorem dX10_init_16 : decode cX10_init 16 = .ok (.putfield 13, 3) := by decide +kernel
theorem dX10_init_19 : decode cX10_init 19 = .ok (.aload_n 0, 1) := by decide +kernel
theorem dX10_init_20 : decode cX10_init 20 = .ok (.iconst 4, 1) := by decide +kernel
theorem dX10_init_21 : decode cX10_init 21 = .ok (.newarray .int, 2) := by decide +kernel
theorem dX10_init_23 : decode cX10_init 23 = .ok (.putfield 16, 3) := by decide +kernel
theorem dX10_init_26 : decode cX10_init 26 = .ok (.aload_n 0, 1) := by decide +kernel
theorem dX10_init_27 : decode cX10_init 27 = .ok (.iconst 4, 1) := by decide +kernel
theorem dX10_init_28 : decode cX10_init 28 = .ok (.newarray .int, 2) := by decide +kernel
theorem dX10_init_30 : decode cX10_init 30 = .ok (.putfield 19, 3) := by decide +kernel
theorem dX10_init_33 : decode cX10_init 33 = .ok (.aload_n 0, 1) := by decide +kernel
theorem dX10_init_34 : decode cX10_init 34 = .ok (.bipush 8, 2) := by decide +kernel
theorem dX10_init_36 : decode cX10_init 36 = .ok (.newarray .int, 2) := by decide +kernel
theorem dX10_init_38 : decode cX10_init 38 = .ok (.putfield 22, 3) := by decide +kernel
theorem dX10_init_41 : decode cX10_init 41 = .ok (.aload_n 0, 1) := by decide +kernel
theorem dX10_init_42 : decode cX10_init 42 = .ok (.bipush 8, 2) := by decide +kernel
theorem dX10_init_44 : decode cX10_init 44 = .ok (.newarray .int, 2) := by decide +kernel
theorem dX10_init_46 : decode cX10_init 46 = .ok (.putfield 25, 3) := by decide +kernel
theorem dX10_init_49 : decode cX10_init 49 = .ok (.aload_n 0, 1) := by decide +kernel
theorem dX10_init_50 : decode cX10_init 50 = .ok (.bipush 8, 2) := by decide +kernel
theorem dX10_init_52 : decode cX10_init 52 = .ok (.newarray .int, 2) := by decide +kernel
theorem dX10_init_54 : decode cX10_init 54 = .ok (.putfield 28, 3) := by decide +kernel
theorem dX10_init_57 : decode cX10_init 57 = .ok (.aload_n 0, 1) := by decide +kernel
theorem dX10_init_58 : decode cX10_init 58 = .ok (.bipush 6, 2) := by decide +kernel
theorem dX10_init_60 : decode cX10_init 60 = .ok (.newarray .int, 2) := by decide +kernel
theorem dX10_init_62 : decode cX10_init 62 = .ok (.putfield 31, 3) := by decide +kernel
theorem dX10_init_65 : decode cX10_init 65 = .ok (.aload_n 0, 1) := by decide +kernel
theorem dX10_init_66 : decode cX10_init 66 = .ok (.bipush 60, 2) := by decide +kernel
theorem dX10_init_68 : decode cX10_init 68 = .ok (.newarray .int, 2) := by decide +kernel
theorem dX10_init_70 : decode cX10_init 70 = .ok (.putfield 34, 3) := by decide +kernel
theorem dX10_init_73 : decode cX10_init 73 = .ok (.aload_n 0, 1) := by decide +kernel
theorem dX10_init_74 : decode cX10_init 74 = .ok (.bipush 60, 2) := by decide +kernel
theorem dX10_init_76 : decode cX10_init 76 = .ok (.newarray .int, 2) := by decide +kernel
theorem dX10_init_78 : decode cX10_init 78 = .ok (.putfield 37, 3) := by decide +kernel
theorem dX10_init_81 : decode cX10_init 81 = .ok (.aload_n 0, 1) := by decide +kernel
theorem dX10_init_82 : decode cX10_init 82 = .ok (.bipush 60, 2) := by decide +kernel
theorem dX10_init_84 : decode cX10_init 84 = .ok (.newarray .int, 2) := by decide +kernel
theorem dX10_init_86 : decode cX10_init 86 = .ok (.putfield 40, 3) := by decide +kernel
theorem dX10_init_89 : decode cX10_init 89 = .ok (.aload_n 0, 1) := by decide +kernel
theorem dX10_init_90 : decode cX10_init 90 = .ok (.bipush 60, 2) := by decide +kernel
theorem dX10_init_92 : decode cX10_init 92 = .ok (.newarray .int, 2) := by decide +kernel
theorem dX10_init_94 : decode cX10_init 94 = .ok (.putfield 43, 3) := by decide +kernel
theorem dX10_init_97 : decode cX10_init 97 = .ok (.aload_n 0, 1) := by decide +kernel
theorem dX10_init_98 : decode cX10_init 98 = .ok (.bipush 60, 2) := by decide +kernel
theorem dX10_init_100 : decode cX10_init 100 = .ok (.newarray .int, 2) := by decide +kernel
theorem dX10_init_102 : decode cX10_init 102 = .ok (.putfield 46, 3) := by decide +kernel
theorem dX10_init_105 : decode cX10_init 105 = .ok (.aload_n 0, 1) := by decide +kernel
theorem dX10_init_106 : decode cX10_init 106 = .ok (.bipush 16, 2) := by decide +kernel
theorem dX10_init_108 : decode cX10_init 108 = .ok (.newarray .int, 2) := by decide +kernel
theorem dX10_init_110 : decode cX10_init 110 = .ok (.putfield 49, 3) := by decide +kernel
theorem dX10_init_113 : decode cX10_init 113 = .ok (.aload_n 0, 1) := by decide +kernel
theorem dX10_init_114 : decode cX10_init 114 = .ok (.bipush 6, 2) := by decide +kernel
theorem dX10_init_116 : decode cX10_init 116 = .ok (.newarray .int, 2) := by decide +kernel
theorem dX10_init_118 : decode cX10_init 118 = .ok (.putfield 52, 3) := by decide +kernel
theorem dX10_init_121 : decode cX10_init 121 = .ok (.aload_n 0, 1) := by decide +kernel
theorem dX10_init_122 : decode cX10_init 122 = .ok (.sipush 720, 3) := by decide +kernel
theorem dX10_init_125 : decode cX10_init 125 = .ok (.newarray .int, 2) := by decide +kernel
theorem dX10_init_127 : decode cX10_init 127 = .ok (.putfield 55, 3) := by decide +kernel
theorem dX10_init_130 : decode cX10_init 130 = .ok (.aload_n 0, 1) := by decide +kernel
theorem dX10_init_131 : decode cX10_init 131 = .ok (.bipush 15, 2) := by decide +kernel
theorem dX10_init_133 : decode cX10_init 133 = .ok (.newarray .int, 2) := by decide +kernel
theorem dX10_init_135 : decode cX10_init 135 = .ok (.putfield 58, 3) := by decide +kernel
theorem dX10_init_138 : decode cX10_init 138 = .ok (.aload_n 0, 1) := by decide +kernel
theorem dX10_init_139 : decode cX10_init 139 = .ok (.bipush 15, 2) := by decide +kernel
theorem dX10_init_141 : decode cX10_init 141 = .ok (.newarray .int, 2) := by decide +kernel
theorem dX10_init_143 : decode cX10_init 143 = .ok (.putfield 61, 3) := by decide +kernel
theorem dX10_init_146 : decode cX10_init 146 = .ok (.aload_n 0, 1) := by decide +kernel
theorem dX10_init_147 : decode cX10_init 147 = .ok (.iconst 3, 1) := by decide +kernel
theorem dX10_init_148 : decode cX10_init 148 = .ok (.newarray .int, 2) := by decide +kernel
theorem dX10_init_150 : decode cX10_init 150 = .ok (.putfield 64, 3) := by decide +kernel
theorem dX10_init_153 : decode cX10_init 153 = .ok (.aload_n 0, 1) := by decide +kernel
theorem dX10_init_154 : decode cX10_init 154 = .ok (.sipush 1000, 3) := by decide +kernel
theorem dX10_init_157 : decode cX10_init 157 = .ok (.newarray .boolean, 2) := by decide +kernel
theorem dX10_init_159 : decode cX10_init 159 = .ok (.putfield 67, 3) := by decide +kernel
theorem dX10_init_162 : decode cX10_init 162 = .ok (.aload_n 0, 1) := by decide +kernel
theorem dX10_init_163 : decode cX10_init 163 = .ok (.bipush 100, 2) := by decide +kernel
theorem dX10_init_165 : decode cX10_init 165 = .ok (.newarray .int, 2) := by decide +kernel
theorem dX10_init_167 : decode cX10_init 167 = .ok (.putfield 71, 3) := by decide +kernel
theorem dX10_init_170 : decode cX10_init 170 = .ok (.aload_n 0, 1) := by decide +kernel
theorem dX10_init_171 : decode cX10_init 171 = .ok (.iconst 2, 1) := by decide +kernel
theorem dX10_init_172 : decode cX10_init 172 = .ok (.newarray .boolean, 2) := by decide +kernel
theorem dX10_init_174 : decode cX10_init 174 = .ok (.putfield 74, 3) := by decide +kernel
theorem dX10_init_177 : decode cX10_init 177 = .ok (.iconst 0, 1) := by decide +kernel
theorem dX10_init_178 : decode cX10_init 178 = .ok (.istore_n 1, 1) := by decide +kernel
theorem dX10_init_179 : decode cX10_init 179 = .ok (.iload_n 1, 1) := by decide +kernel
theorem dX10_init_180 : decode cX10_init 180 = .ok (.bipush 6, 2) := by decide +kernel
theorem dX10_init_182 : decode cX10_init 182 = .ok (.if_icmp .ge 16, 3) := by decide +kernel
theorem dX10_init_185 : decode cX10_init 185 = .ok (.aload_n 0, 1) := by decide +kernel
theorem dX10_init_186 : decode cX10_init 186 = .ok (.getfield 7, 3) := by decide +kernel
theorem dX10_init_189 : decode cX10_init 189 = .ok (.iload_n 1, 1) := by decide +kernel
theorem dX10_init_190 : decode cX10_init 190 = .ok (.iload_n 1, 1) := by decide +kernel
theorem dX10_init_191 : decode cX10_init 191 = .ok (.iastore, 1) := by decide +kernel
theorem dX10_init_192 : decode cX10_init 192 = .ok (.iinc 1 1, 3) := by decide +kernel
theorem dX10_init_195 : decode cX10_init 195 = .ok (.goto (-16), 3) := by decide +kernel
theorem dX10_init_198 : decode cX10_init 198 = .ok (.iconst 0, 1) := by decide +kernel
theorem dX10_init_199 : decode cX10_init 199 = .ok (.istore_n 1, 1) := by decide +kernel
theorem dX10_init_200 : decode cX10_init 200 = .ok (.iload_n 1, 1) := by decide +kernel
theorem dX10_init_201 : decode cX10_init 201 = .ok (.iconst 4, 1) := by decide +kernel
theorem dX10_init_202 : decode cX10_init 202 = .ok (.if_icmp .ge 32, 3) := by decide +kernel
theorem dX10_init_205 : decode cX10_init 205 = .ok (.aload_n 0, 1) := by decide +kernel
theorem dX10_init_206 : decode cX10_init 206 = .ok (.getfield 13, 3) := by decide +kernel
theorem dX10_init_209 : decode cX10_init 209 = .ok (.iload_n 1, 1) := by decide +kernel
theorem dX10_init_210 : decode cX10_init 210 = .ok (.iconst 5, 1) := by decide +kernel
theorem dX10_init_211 : decode cX10_init 211 = .ok (.iastore, 1) := by decide +kernel
theorem dX10_init_212 : decode cX10_init 212 = .ok (.aload_n 0, 1) := by decide +kernel
theorem dX10_init_213 : decode cX10_init 213 = .ok (.getfield 16, 3) := by decide +kernel
theorem dX10_init_216 : decode cX10_init 216 = .ok (.iload_n 1, 1) := by decide +kernel
theorem dX10_init_217 : decode cX10_init 217 = .ok (.bipush 20, 2) := by decide +kernel
theorem dX10_init_219 : decode cX10_init 219 = .ok (.iastore, 1) := by decide +kernel
theorem dX10_init_220 : decode cX10_init 220 = .ok (.aload_n 0, 1) := by decide +kernel
theorem dX10_init_221 : decode cX10_init 221 = .ok (.getfield 19, 3) := by decide +kernel
theorem dX10_init_224 : decode cX10_init 224 = .ok (.iload_n 1, 1) := by decide +kernel
theorem dX10_init_225 : decode cX10_init 225 = .ok (.bipush 63, 2) := by decide +kernel
theorem dX10_init_227 : decode cX10_init 227 = .ok (.iastore, 1) := by decide +kernel
theorem dX10_init_228 : decode cX10_init 228 = .ok (.iinc 1 1, 3) := by decide +kernel
theorem dX10_init_231 : decode cX10_init 231 = .ok (.goto (-31), 3) := by decide +kernel
theorem dX10_init_234 : decode cX10_init 234 = .ok (.return_, 1) := by decide +kernel
theorem dX10_in_0 : decode cX10_in 0 = .ok (.lload_n 0, 1) := by decide +kernel
theorem dX10_in_1 : decode cX10_in 1 = .ok (.lload_n 2, 1) := by decide +kernel
theorem dX10_in_2 : decode cX10_in 2 = .ok (.lcmp, 1) := by decide +kernel
theorem dX10_in_3 : decode cX10_in 3 = .ok (.ifCond .lt 14, 3) := by decide +kernel
theorem dX10_in_6 : decode cX10_in 6 = .ok (.lload_n 0, 1) := by decide +kernel
theorem dX10_in_7 : decode cX10_in 7 = .ok (.lload 4, 2) := by decide +kernel
theorem dX10_in_9 : decode cX10_in 9 = .ok (.lcmp, 1) := by decide +kernel
theorem dX10_in_10 : decode cX10_in 10 = .ok (.ifCond .gt 7, 3) := by decide +kernel
theorem dX10_in_13 : decode cX10_in 13 = .ok (.iconst 1, 1) := by decide +kernel
theorem dX10_in_14 : decode cX10_in 14 = .ok (.goto 4, 3) := by decide +kernel
theorem dX10_in_17 : decode cX10_in 17 = .ok (.iconst 0, 1) := by decide +kernel
theorem dX10_in_18 : decode cX10_in 18 = .ok (.ireturn, 1) := by decide +kernel
set_option maxRecDepth 20000 in
theorem ggX10_isPlace_X10_in : GoodIn wsX10_isPlace wsX10_in := goodIn_r _ [5] (by decide +kernel) (by decide +kernel)
set_option maxRecDepth 20000 in
theorem gX10_isPlace_X10_in : GoodIn wsX10_isPlace (va_wsS RX10 79 yX10_in wsX10_in) := goodIn_app (goodIn_of _ (by decide +kernel)) ggX10_isPlace_X10_in
theorem dX10_isPlace_0 : decode cX10_isPlace 0 = .ok (.iload_n 0, 1) := by decide +kernel
theorem dX10_isPlace_1 : decode cX10_isPlace 1 = .ok (.i2l, 1) := by decide +kernel
theorem dX10_isPlace_2 : decode cX10_isPlace 2 = .ok (.lconst 0, 1) := by decide +kernel
theorem dX10_isPlace_3 : decode cX10_isPlace 3 = .ok (.ldc2_w 77, 3) := by decide +kernel
theorem dX10_isPlace_6 : decode cX10_isPlace 6 = .ok (.invokestatic 79, 3) := by decide +kernel
theorem dX10_isPlace_9 : decode cX10_isPlace 9 = .ok (.ireturn, 1) := by decide +kernel
set_option maxRecDepth 20000 in
theorem ggX10_isWatcher_X10_in : GoodIn wsX10_isWatcher wsX10_in := goodIn_r _ [5] (by decide +kernel) (by decide +kernel)
set_option maxRecDepth 20000 in
theorem gX10_isWatcher_X10_in : GoodIn wsX10_isWatcher (va_wsS RX10 79 yX10_in wsX10_in) := goodIn_app (goodIn_of _ (by decide +kernel)) ggX10_isWatcher_X10_in
theorem dX10_isWatcher_0 : decode cX10_isWatcher 0 = .ok (.iload_n 0, 1) := by decide +kernel
theorem dX10_isWatcher_1 : decode cX10_isWatcher 1 = .ok (.i2l, 1) := by decide +kernel
theorem dX10_isWatcher_2 : decode cX10_isWatcher 2 = .ok (.lconst 0, 1) := by decide +kernel
theorem dX10_isWatcher_3 : decode cX10_isWatcher 3 = .ok (.ldc2_w 83, 3) := by decide +kernel
theorem dX10_isWatcher_6 : decode cX10_isWatcher 6 = .ok (.invokestatic 79, 3) := by decide +kernel
theorem dX10_isWatcher_9 : decode cX10_isWatcher 9 = .ok (.ireturn, 1) := by decide +kernel
theorem dX10_less_0 : decode cX10_less 0 = .ok (.iload_n 0, 1) := by decide +kernel
theorem dX10_less_1 : decode cX10_less 1 = .ok (.iload_n 1, 1) := by decide +kernel
theorem dX10_less_2 : decode cX10_less 2 = .ok (.if_icmp .ge 7, 3) := by decide +kernel
theorem dX10_less_5 : decode cX10_less 5 = .ok (.iload_n 0, 1) := by decide +kernel
theorem dX10_less_6 : decode cX10_less 6 = .ok (.goto 4, 3) := by decide +kernel
theorem dX10_less_9 : decode cX10_less 9 = .ok (.iload_n 1, 1) := by decide +kernel
theorem dX10_less_10 : decode cX10_less 10 = .ok (.ireturn, 1) := by decide +kernel
theorem dX10_ones_0 : decode cX10_ones 0 = .ok (.iconst 0, 1) := by decide +kernel
theorem dX10_ones_1 : decode cX10_ones 1 = .ok (.istore_n 1, 1) := by decide +kernel
theorem dX10_ones_2 : decode cX10_ones 2 = .ok (.iload_n 0, 1) := by decide +kernel
theorem dX10_ones_3 : decode cX10_ones 3 = .ok (.istore_n 2, 1) := by decide +kernel
theorem dX10_ones_4 : decode cX10_ones 4 = .ok (.iload_n 2, 1) := by decide +kernel
theorem dX10_ones_5 : decode cX10_ones 5 = .ok (.ifCond .eq 15, 3) := by decide +kernel
theorem dX10_ones_8 : decode cX10_ones 8 = .ok (.iinc 1 1, 3) := by decide +kernel
theorem dX10_ones_11 : decode cX10_ones 11 = .ok (.iload_n 2, 1) := by decide +kernel
theorem dX10_ones_12 : decode cX10_ones 12 = .ok (.iload_n 2, 1) := by decide +kernel
theorem dX10_ones_13 : decode cX10_ones 13 = .ok (.iconst 1, 1) := by decide +kernel
theorem dX10_ones_14 : decode cX10_ones 14 = .ok (.isub, 1) := by decide +kernel
theorem dX10_ones_15 : decode cX10_ones 15 = .ok (.iand, 1) := by decide +kernel
theorem dX10_ones_16 : decode cX10_ones 16 = .ok (.istore_n 2, 1) := by decide +kernel
theorem dX10_ones_17 : decode cX10_ones 17 = .ok (.goto (-13), 3) := by decide +kernel
theorem dX10_ones_20 : decode cX10_ones 20 = .ok (.iload_n 1, 1) := by decide +kernel
theorem dX10_ones_21 : decode cX10_ones 21 = .ok (.ireturn, 1) := by decide +kernel
theorem dX10_has_0 : decode cX10_has 0 = .ok (.iload_n 0, 1) := by decide +kernel
theorem dX10_has_1 : decode cX10_has 1 = .ok (.iload_n 1, 1) := by decide +kernel
theorem dX10_has_2 : decode cX10_has 2 = .ok (.ishr, 1) := by decide +kernel
theorem dX10_has_3 : decode cX10_has 3 = .ok (.iconst 1, 1) := by decide +kernel
theorem dX10_has_4 : decode cX10_has 4 = .ok (.iand, 1) := by decide +kernel
theorem dX10_has_5 : decode cX10_has 5 = .ok (.iconst 1, 1) := by decide +kernel
theorem dX10_has_6 : decode cX10_has 6 = .ok (.if_icmp .ne 7, 3) := by decide +kernel
theorem dX10_has_9 : decode cX10_has 9 = .ok (.iconst 1, 1) := by decide +kernel
theorem dX10_has_10 : decode cX10_has 10 = .ok (.goto 4, 3) := by decide +kernel
theorem dX10_has_13 : decode cX10_has 13 = .ok (.iconst 0, 1) := by decide +kernel
theorem dX10_has_14 : decode cX10_has 14 = .ok (.ireturn, 1) := by decide +kernel
theorem dX10_readRow_0 : decode cX10_readRow 0 = .ok (.iload_n 1, 1) := by decide +kernel
theorem dX10_readRow_1 : decode cX10_readRow 1 = .ok (.istore_n 2, 1) := by decide +kernel
theorem dX10_readRow_2 : decode cX10_readRow 2 = .ok (.iconst 0, 1) := by decide +kernel
theorem dX10_readRow_3 : decode cX10_readRow 3 = .ok (.istore_n 3, 1) := by decide +kernel
theorem dX10_readRow_4 : decode cX10_readRow 4 = .ok (.iconst 5, 1) := by decide +kernel
theorem dX10_readRow_5 : decode cX10_readRow 5 = .ok (.istore 4, 2) := by decide +kernel
theorem dX10_readRow_7 : decode cX10_readRow 7 = .ok (.iload 4, 2) := by decide +kernel
theorem dX10_readRow_9 : decode cX10_readRow 9 = .ok (.ifCond .lt 42, 3) := by decide +kernel
theorem dX10_readRow_12 : decode cX10_readRow 12 = .ok (.aload_n 0, 1) := by decide +kernel
theorem dX10_readRow_13 : decode cX10_readRow 13 = .ok (.getfield 31, 3) := by decide +kernel
theorem dX10_readRow_16 : decode cX10_readRow 16 = .ok (.iload 4, 2) := by decide +kernel
theorem dX10_readRow_18 : decode cX10_readRow 18 = .ok (.iload_n 2, 1) := by decide +kernel
theorem dX10_readRow_19 : decode cX10_readRow 19 = .ok (.bipush 10, 2) := by decide +kernel
theorem dX10_readRow_21 : decode cX10_readRow 21 = .ok (.irem, 1) := by decide +kernel
theorem dX10_readRow_22 : decode cX10_readRow 22 = .ok (.iastore, 1) := by decide +kernel
theorem dX10_readRow_23 : decode cX10_readRow 23 = .ok (.iload_n 3, 1) := by decide +kernel
theorem dX10_readRow_24 : decode cX10_readRow 24 = .ok (.iload_n 1, 1) := by decide +kernel
theorem dX10_readRow_25 : decode cX10_readRow 25 = .ok (.ifCond .ge 7, 3) := by decide +kernel
theorem dX10_readRow_28 : decode cX10_readRow 28 = .ok (.iconst 0, 1) := by decide +kernel
theorem dX10_readRow_29 : decode cX10_readRow 29 = .ok (.goto 9, 3) := by decide +kernel
theorem dX10_readRow_32 : decode cX10_readRow 32 = .ok (.iconst 1, 1) := by decide +kernel
theorem dX10_readRow_33 : decode cX10_readRow 33 = .ok (.iload_n 2, 1) := by decide +kernel
theorem dX10_readRow_34 : decode cX10_readRow 34 = .ok (.bipush 10, 2) := by decide +kernel
theorem dX10_readRow_36 : decode cX10_readRow 36 = .ok (.irem, 1) := by decide +kernel
theorem dX10_readRow_37 : decode cX10_readRow 37 = .ok (.ishl, 1) := by decide +kernel
theorem dX10_readRow_38 : decode cX10_readRow 38 = .ok (.ior, 1) := by decide +kernel
theorem dX10_readRow_39 : decode cX10_readRow 39 = .ok (.istore_n 3, 1) := by decide +kernel
theorem dX10_readRow_40 : decode cX10_readRow 40 = .ok (.iload_n 2, 1) := by decide +kernel
theorem dX10_readRow_41 : decode cX10_readRow 41 = .ok (.bipush 10, 2) := by decide +kernel
theorem dX10_readRow_43 : decode cX10_readRow 43 = .ok (.idiv, 1) := by decide +kernel
theorem dX10_readRow_44 : decode cX10_readRow 44 = .ok (.istore_n 2, 1) := by decide +kernel
theorem dX10_readRow_45 : decode cX10_readRow 45 = .ok (.iinc 4 (-1), 3) := by decide +kernel
theorem dX10_readRow_48 : decode cX10_readRow 48 = .ok (.goto (-41), 3) := by decide +kernel
theorem dX10_readRow_51 : decode cX10_readRow 51 = .ok (.iload_n 1, 1) := by decide +kernel
theorem dX10_readRow_52 : decode cX10_readRow 52 = .ok (.ifCond .lt 17, 3) := by decide +kernel
theorem dX10_readRow_55 : decode cX10_readRow 55 = .ok (.iload_n 2, 1) := by decide +kernel
theorem dX10_readRow_56 : decode cX10_readRow 56 = .ok (.ifCond .ne 13, 3) := by decide +kernel
theorem dX10_readRow_59 : decode cX10_readRow 59 = .ok (.iload_n 3, 1) := by decide +kernel
theorem dX10_readRow_60 : decode cX10_readRow 60 = .ok (.bipush 63, 2) := by decide +kernel
theorem dX10_readRow_62 : decode cX10_readRow 62 = .ok (.if_icmp .ne 7, 3) := by decide +kernel
theorem dX10_readRow_65 : decode cX10_readRow 65 = .ok (.iconst 1, 1) := by decide +kernel
theorem dX10_readRow_66 : decode cX10_readRow 66 = .ok (.goto 4, 3) := by decide +kernel
theorem dX10_readRow_69 : decode cX10_readRow 69 = .ok (.iconst 0, 1) := by decide +kernel
theorem dX10_readRow_70 : decode cX10_readRow 70 = .ok (.ireturn, 1) := by decide +kernel
theorem dX10_rowNow_0 : decode cX10_rowNow 0 = .ok (.iconst 0, 1) := by decide +kernel
theorem dX10_rowNow_1 : decode cX10_rowNow 1 = .ok (.istore_n 1, 1) := by decide +kernel
theorem dX10_rowNow_2 : decode cX10_rowNow 2 = .ok (.iconst 0, 1) := by decide +kernel
theorem dX10_rowNow_3 : decode cX10_rowNow 3 = .ok (.istore_n 2, 1) := by decide +kernel
theorem dX10_rowNow_4 : decode cX10_rowNow 4 = .ok (.iload_n 2, 1) := by decide +kernel
theorem dX10_rowNow_5 : decode cX10_rowNow 5 = .ok (.bipush 6, 2) := by decide +kernel
theorem dX10_rowNow_7 : decode cX10_rowNow 7 = .ok (.if_icmp .ge 21, 3) := by decide +kernel
theorem dX10_rowNow_10 : decode cX10_rowNow 10 = .ok (.bipush 10, 2) := by decide +kernel
theorem dX10_rowNow_12 : decode cX10_rowNow 12 = .ok (.iload_n 1, 1) := by decide +kernel
theorem dX10_rowNow_13 : decode cX10_rowNow 13 = .ok (.imul, 1) := by decide +kernel
theorem dX10_rowNow_14 : decode cX10_rowNow 14 = .ok (.aload_n 0, 1) := by decide +kernel
theorem dX10_rowNow_15 : decode cX10_rowNow 15 = .ok (.getfield 7, 3) := by decide +kernel
theorem dX10_rowNow_18 : decode cX10_rowNow 18 = .ok (.iload_n 2, 1) := by decide +kernel
theorem dX10_rowNow_19 : decode cX10_rowNow 19 = .ok (.iaload, 1) := by decide +kernel
theorem dX10_rowNow_20 : decode cX10_rowNow 20 = .ok (.iadd, 1) := by decide +kernel
theorem dX10_rowNow_21 : decode cX10_rowNow 21 = .ok (.istore_n 1, 1) := by decide +kernel
theorem dX10_rowNow_22 : decode cX10_rowNow 22 = .ok (.iinc 2 1, 3) := by decide +kernel
theorem dX10_rowNow_25 : decode cX10_rowNow 25 = .ok (.goto (-21), 3) := by decide +kernel
theorem dX10_rowNow_28 : decode cX10_rowNow 28 = .ok (.iload_n 1, 1) := by decide +kernel
theorem dX10_rowNow_29 : decode cX10_rowNow 29 = .ok (.ireturn, 1) := by decide +kernel
set_option maxRecDepth 20000 in
theorem ggX10_cups_X10_in : GoodIn wsX10_cups wsX10_in := goodIn_r _ [9] (by decide +kernel) (by decide +kernel)
set_option maxRecDepth 20000 in
theorem gX10_cups_X10_in : GoodIn wsX10_cups (va_wsS RX10 79 yX10_in wsX10_in) := goodIn_app (goodIn_of _ (by decide +kernel)) ggX10_cups_X10_in
set_option maxRecDepth 20000 in
theorem ggX10_cups_X10_readRow : GoodIn wsX10_cups wsX10_readRow := goodIn_r _ [13, 4, 18, 19, 20, 21, 22, 23, 24, 25, 26, 27, 28, 29, 30, 31, 32, 33, 34, 35, 36, 37, 38, 39, 40, 41, 42, 43, 44, 45, 46, 47, 48, 49, 50, 51] (by decide +kernel) (by decide +kernel)
set_option maxRecDepth 20000 in
theorem gX10_cups_X10_readRow : GoodIn wsX10_cups (wsV RX10 87 RX10 yX10_readRow wsX10_readRow) := goodIn_app (goodIn_of _ (by decide +kernel)) ggX10_cups_X10_readRow
set_option maxRecDepth 20000 in
theorem ggX10_cups_X10_rowNow : GoodIn wsX10_cups wsX10_rowNow := goodIn_r _ [17, 3, 18, 19, 20, 21, 22, 23, 24, 25, 26, 27, 28, 29, 30, 31, 32, 33, 34, 35, 36, 37, 38, 39, 40, 41, 42, 43, 44, 45, 46, 47, 48, 49, 50, 51] (by decide +kernel) (by decide +kernel)
set_option maxRecDepth 20000 in
theorem gX10_cups_X10_rowNow : GoodIn wsX10_cups (wsV RX10 91 RX10 yX10_rowNow wsX10_rowNow) := goodIn_app (goodIn_of _ (by decide +kernel)) ggX10_cups_X10_rowNow
theorem dX10_cups_0 : decode cX10_cups 0 = .ok (.iload_n 2, 1) := by decide +kernel
theorem dX10_cups_1 : decode cX10_cups 1 = .ok (.i2l, 1) := by decide +kernel
theorem dX10_cups_2 : decode cX10_cups 2 = .ok (.ldc2_w 85, 3) := by decide +kernel
theorem dX10_cups_5 : decode cX10_cups 5 = .ok (.ldc2_w 77, 3) := by decide +kernel
theorem dX10_cups_8 : decode cX10_cups 8 = .ok (.invokestatic 79, 3) := by decide +kernel
theorem dX10_cups_11 : decode cX10_cups 11 = .ok (.ifCond .ne 5, 3) := by decide +kernel
theorem dX10_cups_14 : decode cX10_cups 14 = .ok (.iconst (-1), 1) := by decide +kernel
theorem dX10_cups_15 : decode cX10_cups 15 = .ok (.ireturn, 1) := by decide +kernel
theorem dX10_cups_16 : decode cX10_cups 16 = .ok (.aload_n 0, 1) := by decide +kernel
theorem dX10_cups_17 : decode cX10_cups 17 = .ok (.iload_n 1, 1) := by decide +kernel
theorem dX10_cups_18 : decode cX10_cups 18 = .ok (.invokevirtual 87, 3) := by decide +kernel
theorem dX10_cups_21 : decode cX10_cups 21 = .ok (.ifCond .ne 6, 3) := by decide +kernel
theorem dX10_cups_24 : decode cX10_cups 24 = .ok (.bipush (-2), 2) := by decide +kernel
theorem dX10_cups_26 : decode cX10_cups 26 = .ok (.ireturn, 1) := by decide +kernel
theorem dX10_cups_27 : decode cX10_cups 27 = .ok (.aload_n 0, 1) := by decide +kernel
theorem dX10_cups_28 : decode cX10_cups 28 = .ok (.invokevirtual 91, 3) := by decide +kernel
theorem dX10_cups_31 : decode cX10_cups 31 = .ok (.istore_n 3, 1) := by decide +kernel
theorem dX10_cups_32 : decode cX10_cups 32 = .ok (.iconst 0, 1) := by decide +kernel
theorem dX10_cups_33 : decode cX10_cups 33 = .ok (.istore 4, 2) := by decide +kernel
theorem dX10_cups_35 : decode cX10_cups 35 = .ok (.iload 4, 2) := by decide +kernel
theorem dX10_cups_37 : decode cX10_cups 37 = .ok (.bipush 6, 2) := by decide +kernel
theorem dX10_cups_39 : decode cX10_cups 39 = .ok (.if_icmp .ge 23, 3) := by decide +kernel
theorem dX10_cups_42 : decode cX10_cups 42 = .ok (.aload_n 0, 1) := by decide +kernel
theorem dX10_cups_43 : decode cX10_cups 43 = .ok (.getfield 7, 3) := by decide +kernel
theorem dX10_cups_46 : decode cX10_cups 46 = .ok (.iload 4, 2) := by decide +kernel
theorem dX10_cups_48 : decode cX10_cups 48 = .ok (.aload_n 0, 1) := by decide +kernel
theorem dX10_cups_49 : decode cX10_cups 49 = .ok (.getfield 31, 3) := by decide +kernel
theorem dX10_cups_52 : decode cX10_cups 52 = .ok (.iload 4, 2) := by decide +kernel
theorem dX10_cups_54 : decode cX10_cups 54 = .ok (.iaload, 1) := by decide +kernel
theorem dX10_cups_55 : decode cX10_cups 55 = .ok (.iastore, 1) := by decide +kernel
theorem dX10_cups_56 : decode cX10_cups 56 = .ok (.iinc 4 1, 3) := by decide +kernel
theorem dX10_cups_59 : decode cX10_cups 59 = .ok (.goto (-24), 3) := by decide +kernel
theorem dX10_cups_62 : decode cX10_cups 62 = .ok (.aload_n 0, 1) := by decide +kernel
theorem dX10_cups_63 : decode cX10_cups 63 = .ok (.iload_n 2, 1) := by decide +kernel
theorem dX10_cups_64 : decode cX10_cups 64 = .ok (.ifCond .ge 8, 3) := by decide +kernel
theorem dX10_cups_67 : decode cX10_cups 67 = .ok (.bipush (-6), 2) := by decide +kernel
theorem dX10_cups_69 : decode cX10_cups 69 = .ok (.goto 4, 3) := by decide +kernel
theorem dX10_cups_72 : decode cX10_cups 72 = .ok (.iload_n 2, 1) := by decide +kernel
theorem dX10_cups_73 : decode cX10_cups 73 = .ok (.putfield 95, 3) := by decide +kernel
theorem dX10_cups_76 : decode cX10_cups 76 = .ok (.iload_n 3, 1) := by decide +kernel
theorem dX10_cups_77 : decode cX10_cups 77 = .ok (.ireturn, 1) := by decide +kernel
set_option maxRecDepth 20000 in
theorem ggX10_watcher_X10_isWatcher : GoodIn wsX10_watcher wsX10_isWatcher := goodIn_r _ [10, 11, 12, 13, 9, 14] (by decide +kernel) (by decide +kernel)
set_option maxRecDepth 20000 in
theorem gX10_watcher_X10_isWatcher : GoodIn wsX10_watcher (va_wsS RX10 99 yX10_isWatcher wsX10_isWatcher) := goodIn_app (goodIn_of _ (by decide +kernel)) ggX10_watcher_X10_isWatcher
set_option maxRecDepth 20000 in
theorem ggX10_watcher_X10_in : GoodIn wsX10_watcher wsX10_in := goodIn_r _ [14] (by decide +kernel) (by decide +kernel)
set_option maxRecDepth 20000 in
theorem gX10_watcher_X10_in : GoodIn wsX10_watcher (va_wsS RX10 79 yX10_in wsX10_in) := goodIn_app (goodIn_of _ (by decide +kernel)) ggX10_watcher_X10_in
theorem dX10_watcher_0 : decode cX10_watcher 0 = .ok (.iload_n 1, 1) := by decide +kernel
theorem dX10_watcher_1 : decode cX10_watcher 1 = .ok (.invokestatic 99, 3) := by decide +kernel
theorem dX10_watcher_4 : decode cX10_watcher 4 = .ok (.ifCond .ne 5, 3) := by decide +kernel
theorem dX10_watcher_7 : decode cX10_watcher 7 = .ok (.iconst (-1), 1) := by decide +kernel
theorem dX10_watcher_8 : decode cX10_watcher 8 = .ok (.ireturn, 1) := by decide +kernel
theorem dX10_watcher_9 : decode cX10_watcher 9 = .ok (.iload_n 2, 1) := by decide +kernel
theorem dX10_watcher_10 : decode cX10_watcher 10 = .ok (.i2l, 1) := by decide +kernel
theorem dX10_watcher_11 : decode cX10_watcher 11 = .ok (.lconst 1, 1) := by decide +kernel
theorem dX10_watcher_12 : decode cX10_watcher 12 = .ok (.ldc2_w 102, 3) := by decide +kernel
theorem dX10_watcher_15 : decode cX10_watcher 15 = .ok (.invokestatic 79, 3) := by decide +kernel
theorem dX10_watcher_18 : decode cX10_watcher 18 = .ok (.ifCond .eq 28, 3) := by decide +kernel
theorem dX10_watcher_21 : decode cX10_watcher 21 = .ok (.iload_n 3, 1) := by decide +kernel
theorem dX10_watcher_22 : decode cX10_watcher 22 = .ok (.i2l, 1) := by decide +kernel
theorem dX10_watcher_23 : decode cX10_watcher 23 = .ok (.lconst 0, 1) := by decide +kernel
theorem dX10_watcher_24 : decode cX10_watcher 24 = .ok (.ldc2_w 104, 3) := by decide +kernel
theorem dX10_watcher_27 : decode cX10_watcher 27 = .ok (.invokestatic 79, 3) := by decide +kernel
theorem dX10_watcher_30 : decode cX10_watcher 30 = .ok (.ifCond .eq 16, 3) := by decide +kernel
theorem dX10_watcher_33 : decode cX10_watcher 33 = .ok (.iload 4, 2) := by decide +kernel
theorem dX10_watcher_35 : decode cX10_watcher 35 = .ok (.i2l, 1) := by decide +kernel
theorem dX10_watcher_36 : decode cX10_watcher 36 = .ok (.lconst 1, 1) := by decide +kernel
theorem dX10_watcher_37 : decode cX10_watcher 37 = .ok (.ldc2_w 106, 3) := by decide +kernel
theorem dX10_watcher_40 : decode cX10_watcher 40 = .ok (.invokestatic 79, 3) := by decide +kernel
theorem dX10_watcher_43 : decode cX10_watcher 43 = .ok (.ifCond .ne 6, 3) := by decide +kernel
theorem dX10_watcher_46 : decode cX10_watcher 46 = .ok (.bipush (-2), 2) := by decide +kernel
theorem dX10_watcher_48 : decode cX10_watcher 48 = .ok (.ireturn, 1) := by decide +kernel
theorem dX10_watcher_49 : decode cX10_watcher 49 = .ok (.aload_n 0, 1) := by decide +kernel
theorem dX10_watcher_50 : decode cX10_watcher 50 = .ok (.getfield 16, 3) := by decide +kernel
theorem dX10_watcher_53 : decode cX10_watcher 53 = .ok (.iload_n 1, 1) := by decide +kernel
theorem dX10_watcher_54 : decode cX10_watcher 54 = .ok (.iaload, 1) := by decide +kernel
theorem dX10_watcher_55 : decode cX10_watcher 55 = .ok (.istore 5, 2) := by decide +kernel
theorem dX10_watcher_57 : decode cX10_watcher 57 = .ok (.aload_n 0, 1) := by decide +kernel
theorem dX10_watcher_58 : decode cX10_watcher 58 = .ok (.getfield 13, 3) := by decide +kernel
theorem dX10_watcher_61 : decode cX10_watcher 61 = .ok (.iload_n 1, 1) := by decide +kernel
theorem dX10_watcher_62 : decode cX10_watcher 62 = .ok (.iload_n 2, 1) := by decide +kernel
theorem dX10_watcher_63 : decode cX10_watcher 63 = .ok (.iastore, 1) := by decide +kernel
theorem dX10_watcher_64 : decode cX10_watcher 64 = .ok (.aload_n 0, 1) := by decide +kernel
theorem dX10_watcher_65 : decode cX10_watcher 65 = .ok (.getfield 16, 3) := by decide +kernel
theorem dX10_watcher_68 : decode cX10_watcher 68 = .ok (.iload_n 1, 1) := by decide +kernel
theorem dX10_watcher_69 : decode cX10_watcher 69 = .ok (.iload_n 3, 1) := by decide +kernel
theorem dX10_watcher_70 : decode cX10_watcher 70 = .ok (.iastore, 1) := by decide +kernel
theorem dX10_watcher_71 : decode cX10_watcher 71 = .ok (.aload_n 0, 1) := by decide +kernel
theorem dX10_watcher_72 : decode cX10_watcher 72 = .ok (.getfield 19, 3) := by decide +kernel
theorem dX10_watcher_75 : decode cX10_watcher 75 = .ok (.iload_n 1, 1) := by decide +kernel
theorem dX10_watcher_76 : decode cX10_watcher 76 = .ok (.iload 4, 2) := by decide +kernel
theorem dX10_watcher_78 : decode cX10_watcher 78 = .ok (.iastore, 1) := by decide +kernel
theorem dX10_watcher_79 : decode cX10_watcher 79 = .ok (.iload 5, 2) := by decide +kernel
theorem dX10_watcher_81 : decode cX10_watcher 81 = .ok (.ireturn, 1) := by decide +kernel
theorem dX10_placeOf_0 : decode cX10_placeOf 0 = .ok (.bipush (-6), 2) := by decide +kernel
theorem dX10_placeOf_2 : decode cX10_placeOf 2 = .ok (.istore_n 2, 1) := by decide +kernel
theorem dX10_placeOf_3 : decode cX10_placeOf 3 = .ok (.iconst 0, 1) := by decide +kernel
theorem dX10_placeOf_4 : decode cX10_placeOf 4 = .ok (.istore_n 3, 1) := by decide +kernel
theorem dX10_placeOf_5 : decode cX10_placeOf 5 = .ok (.iload_n 3, 1) := by decide +kernel
theorem dX10_placeOf_6 : decode cX10_placeOf 6 = .ok (.bipush 6, 2) := by decide +kernel
theorem dX10_placeOf_8 : decode cX10_placeOf 8 = .ok (.if_icmp .ge 25, 3) := by decide +kernel
theorem dX10_placeOf_11 : decode cX10_placeOf 11 = .ok (.aload_n 0, 1) := by decide +kernel
theorem dX10_placeOf_12 : decode cX10_placeOf 12 = .ok (.getfield 7, 3) := by decide +kernel
theorem dX10_placeOf_15 : decode cX10_placeOf 15 = .ok (.iload_n 3, 1) := by decide +kernel
theorem dX10_placeOf_16 : decode cX10_placeOf 16 = .ok (.iaload, 1) := by decide +kernel
theorem dX10_placeOf_17 : decode cX10_placeOf 17 = .ok (.iload_n 1, 1) := by decide +kernel
theorem dX10_placeOf_18 : decode cX10_placeOf 18 = .ok (.if_icmp .ne 7, 3) := by decide +kernel
theorem dX10_placeOf_21 : decode cX10_placeOf 21 = .ok (.iload_n 3, 1) := by decide +kernel
theorem dX10_placeOf_22 : decode cX10_placeOf 22 = .ok (.goto 4, 3) := by decide +kernel
theorem dX10_placeOf_25 : decode cX10_placeOf 25 = .ok (.iload_n 2, 1) := by decide +kernel
theorem dX10_placeOf_26 : decode cX10_placeOf 26 = .ok (.istore_n 2, 1) := by decide +kernel
theorem dX10_placeOf_27 : decode cX10_placeOf 27 = .ok (.iinc 3 1, 3) := by decide +kernel
theorem dX10_placeOf_30 : decode cX10_placeOf 30 = .ok (.goto (-25), 3) := by decide +kernel
theorem dX10_placeOf_33 : decode cX10_placeOf 33 = .ok (.iload_n 2, 1) := by decide +kernel
theorem dX10_placeOf_34 : decode cX10_placeOf 34 = .ok (.ireturn, 1) := by decide +kernel
set_option maxRecDepth 20000 in
theorem ggX10_peaPlace_X10_placeOf : GoodIn wsX10_peaPlace wsX10_placeOf := goodIn_r _ [6, 7, 8, 9, 10, 11, 12, 13, 14, 15, 16, 17, 18, 19, 20, 21, 22, 23, 24, 25, 26, 27, 28, 29, 30, 31, 32, 33, 34, 35, 36, 37, 38, 39, 40, 41] (by decide +kernel) (by decide +kernel)
set_option maxRecDepth 20000 in
theorem gX10_peaPlace_X10_placeOf : GoodIn wsX10_peaPlace (wsV RX10 108 RX10 yX10_placeOf wsX10_placeOf) := goodIn_app (goodIn_of _ (by decide +kernel)) ggX10_peaPlace_X10_placeOf
theorem dX10_peaPlace_0 : decode cX10_peaPlace 0 = .ok (.aload_n 0, 1) := by decide +kernel
theorem dX10_peaPlace_1 : decode cX10_peaPlace 1 = .ok (.getfield 95, 3) := by decide +kernel
theorem dX10_peaPlace_4 : decode cX10_peaPlace 4 = .ok (.ifCond .ge 8, 3) := by decide +kernel
theorem dX10_peaPlace_7 : decode cX10_peaPlace 7 = .ok (.bipush (-6), 2) := by decide +kernel
theorem dX10_peaPlace_9 : decode cX10_peaPlace 9 = .ok (.goto 11, 3) := by decide +kernel
theorem dX10_peaPlace_12 : decode cX10_peaPlace 12 = .ok (.aload_n 0, 1) := by decide +kernel
theorem dX10_peaPlace_13 : decode cX10_peaPlace 13 = .ok (.aload_n 0, 1) := by decide +kernel
theorem dX10_peaPlace_14 : decode cX10_peaPlace 14 = .ok (.getfield 95, 3) := by decide +kernel
theorem dX10_peaPlace_17 : decode cX10_peaPlace 17 = .ok (.invokevirtual 108, 3) := by decide +kernel
theorem dX10_peaPlace_20 : decode cX10_peaPlace 20 = .ok (.ireturn, 1) := by decide +kernel
set_option maxRecDepth 20000 in
theorem ggX10_say_X10_in : GoodIn wsX10_say wsX10_in := goodIn_r _ [8] (by decide +kernel) (by decide +kernel)
set_option maxRecDepth 20000 in
theorem gX10_say_X10_in : GoodIn wsX10_say (va_wsS RX10 79 yX10_in wsX10_in) := goodIn_app (goodIn_of _ (by decide +kernel)) ggX10_say_X10_in
theorem dX10_say_0 : decode cX10_say 0 = .ok (.iload_n 1, 1) := by decide +kernel
theorem dX10_say_1 : decode cX10_say 1 = .ok (.i2l, 1) := by decide +kernel
theorem dX10_say_2 : decode cX10_say 2 = .ok (.ldc2_w 112, 3) := by decide +kernel
theorem dX10_say_5 : decode cX10_say 5 = .ok (.ldc2_w 114, 3) := by decide +kernel
theorem dX10_say_8 : decode cX10_say 8 = .ok (.invokestatic 79, 3) := by decide +kernel
theorem dX10_say_11 : decode cX10_say 11 = .ok (.ifCond .ne 6, 3) := by decide +kernel
theorem dX10_say_14 : decode cX10_say 14 = .ok (.bipush (-2), 2) := by decide +kernel
theorem dX10_say_16 : decode cX10_say 16 = .ok (.ireturn, 1) := by decide +kernel
theorem dX10_say_17 : decode cX10_say 17 = .ok (.aload_n 0, 1) := by decide +kernel
theorem dX10_say_18 : decode cX10_say 18 = .ok (.getfield 116, 3) := by decide +kernel
theorem dX10_say_21 : decode cX10_say 21 = .ok (.bipush 60, 2) := by decide +kernel
theorem dX10_say_23 : decode cX10_say 23 = .ok (.if_icmp .ne 6, 3) := by decide +kernel
theorem dX10_say_26 : decode cX10_say 26 = .ok (.bipush (-4), 2) := by decide +kernel
theorem dX10_say_28 : decode cX10_say 28 = .ok (.ireturn, 1) := by decide +kernel
theorem dX10_say_29 : decode cX10_say 29 = .ok (.aload_n 0, 1) := by decide +kernel
theorem dX10_say_30 : decode cX10_say 30 = .ok (.getfield 34, 3) := by decide +kernel
theorem dX10_say_33 : decode cX10_say 33 = .ok (.aload_n 0, 1) := by decide +kernel
theorem dX10_say_34 : decode cX10_say 34 = .ok (.getfield 116, 3) := by decide +kernel
theorem dX10_say_37 : decode cX10_say 37 = .ok (.iload_n 1, 1) := by decide +kernel
theorem dX10_say_38 : decode cX10_say 38 = .ok (.iastore, 1) := by decide +kernel
theorem dX10_say_39 : decode cX10_say 39 = .ok (.aload_n 0, 1) := by decide +kernel
theorem dX10_say_40 : decode cX10_say 40 = .ok (.dup, 1) := by decide +kernel
theorem dX10_say_41 : decode cX10_say 41 = .ok (.getfield 116, 3) := by decide +kernel
theorem dX10_say_44 : decode cX10_say 44 = .ok (.iconst 1, 1) := by decide +kernel
theorem dX10_say_45 : decode cX10_say 45 = .ok (.iadd, 1) := by decide +kernel
theorem dX10_say_46 : decode cX10_say 46 = .ok (.putfield 116, 3) := by decide +kernel
theorem dX10_say_49 : decode cX10_say 49 = .ok (.aload_n 0, 1) := by decide +kernel
theorem dX10_say_50 : decode cX10_say 50 = .ok (.getfield 116, 3) := by decide +kernel
theorem dX10_say_53 : decode cX10_say 53 = .ok (.ireturn, 1) := by decide +kernel
theorem dX10_wipe_0 : decode cX10_wipe 0 = .ok (.aload_n 0, 1) := by decide +kernel
theorem dX10_wipe_1 : decode cX10_wipe 1 = .ok (.getfield 116, 3) := by decide +kernel
theorem dX10_wipe_4 : decode cX10_wipe 4 = .ok (.istore_n 1, 1) := by decide +kernel
theorem dX10_wipe_5 : decode cX10_wipe 5 = .ok (.aload_n 0, 1) := by decide +kernel
theorem dX10_wipe_6 : decode cX10_wipe 6 = .ok (.iconst 0, 1) := by decide +kernel
theorem dX10_wipe_7 : decode cX10_wipe 7 = .ok (.putfield 116, 3) := by decide +kernel
theorem dX10_wipe_10 : decode cX10_wipe 10 = .ok (.iload_n 1, 1) := by decide +kernel
theorem dX10_wipe_11 : decode cX10_wipe 11 = .ok (.ireturn, 1) := by decide +kernel
theorem dX10_close_0 : decode cX10_close 0 = .ok (.aload_n 0, 1) := by decide +kernel
theorem dX10_close_1 : decode cX10_close 1 = .ok (.getfield 37, 3) := by decide +kernel
theorem dX10_close_4 : decode cX10_close 4 = .ok (.aload_n 0, 1) := by decide +kernel
theorem dX10_close_5 : decode cX10_close 5 = .ok (.getfield 119, 3) := by decide +kernel
theorem dX10_close_8 : decode cX10_close 8 = .ok (.iload_n 1, 1) := by decide +kernel
theorem dX10_close_9 : decode cX10_close 9 = .ok (.iastore, 1) := by decide +kernel
theorem dX10_close_10 : decode cX10_close 10 = .ok (.aload_n 0, 1) := by decide +kernel
theorem dX10_close_11 : decode cX10_close 11 = .ok (.dup, 1) := by decide +kernel
theorem dX10_close_12 : decode cX10_close 12 = .ok (.getfield 119, 3) := by decide +kernel
theorem dX10_close_15 : decode cX10_close 15 = .ok (.iconst 1, 1) := by decide +kernel
theorem dX10_close_16 : decode cX10_close 16 = .ok (.iadd, 1) := by decide +kernel
theorem dX10_close_17 : decode cX10_close 17 = .ok (.putfield 119, 3) := by decide +kernel
theorem dX10_close_20 : decode cX10_close 20 = .ok (.iconst 0, 1) := by decide +kernel
theorem dX10_close_21 : decode cX10_close 21 = .ok (.ireturn, 1) := by decide +kernel
set_option maxRecDepth 20000 in
theorem ggX10_begin_X10_in : GoodIn wsX10_begin wsX10_in := goodIn_r _ [10] (by decide +kernel) (by decide +kernel)
set_option maxRecDepth 20000 in
theorem gX10_begin_X10_in : GoodIn wsX10_begin (va_wsS RX10 79 yX10_in wsX10_in) := goodIn_app (goodIn_of _ (by decide +kernel)) ggX10_begin_X10_in
set_option maxRecDepth 20000 in
theorem ggX10_begin_X10_close : GoodIn wsX10_begin wsX10_close := goodIn_r _ [14, 15, 2, 16, 17, 18, 19, 20, 21, 22, 23, 24, 25, 26, 27, 28, 29, 30, 31, 32, 33, 34, 35, 36, 37, 38, 39, 40, 41, 42, 43, 44, 45, 46, 47, 48, 49] (by decide +kernel) (by decide +kernel)
set_option maxRecDepth 20000 in
theorem gX10_begin_X10_close : GoodIn wsX10_begin (wsV RX10 126 RX10 yX10_close wsX10_close) := goodIn_app (goodIn_of _ (by decide +kernel)) ggX10_begin_X10_close
theorem dX10_begin_0 : decode cX10_begin 0 = .ok (.aload_n 0, 1) := by decide +kernel
theorem dX10_begin_1 : decode cX10_begin 1 = .ok (.getfield 40, 3) := by decide +kernel
theorem dX10_begin_4 : decode cX10_begin 4 = .ok (.aload_n 0, 1) := by decide +kernel
theorem dX10_begin_5 : decode cX10_begin 5 = .ok (.getfield 119, 3) := by decide +kernel
theorem dX10_begin_8 : decode cX10_begin 8 = .ok (.iload_n 1, 1) := by decide +kernel
theorem dX10_begin_9 : decode cX10_begin 9 = .ok (.i2l, 1) := by decide +kernel
theorem dX10_begin_10 : decode cX10_begin 10 = .ok (.ldc2_w 122, 3) := by decide +kernel
theorem dX10_begin_13 : decode cX10_begin 13 = .ok (.ldc2_w 124, 3) := by decide +kernel
theorem dX10_begin_16 : decode cX10_begin 16 = .ok (.invokestatic 79, 3) := by decide +kernel
theorem dX10_begin_19 : decode cX10_begin 19 = .ok (.ifCond .eq 10, 3) := by decide +kernel
theorem dX10_begin_22 : decode cX10_begin 22 = .ok (.iload_n 1, 1) := by decide +kernel
theorem dX10_begin_23 : decode cX10_begin 23 = .ok (.bipush 65, 2) := by decide +kernel
theorem dX10_begin_25 : decode cX10_begin 25 = .ok (.isub, 1) := by decide +kernel
theorem dX10_begin_26 : decode cX10_begin 26 = .ok (.goto 4, 3) := by decide +kernel
theorem dX10_begin_29 : decode cX10_begin 29 = .ok (.iconst 0, 1) := by decide +kernel
theorem dX10_begin_30 : decode cX10_begin 30 = .ok (.iastore, 1) := by decide +kernel
theorem dX10_begin_31 : decode cX10_begin 31 = .ok (.aload_n 0, 1) := by decide +kernel
theorem dX10_begin_32 : decode cX10_begin 32 = .ok (.getfield 43, 3) := by decide +kernel
theorem dX10_begin_35 : decode cX10_begin 35 = .ok (.aload_n 0, 1) := by decide +kernel
theorem dX10_begin_36 : decode cX10_begin 36 = .ok (.getfield 119, 3) := by decide +kernel
theorem dX10_begin_39 : decode cX10_begin 39 = .ok (.iconst 0, 1) := by decide +kernel
theorem dX10_begin_40 : decode cX10_begin 40 = .ok (.iastore, 1) := by decide +kernel
theorem dX10_begin_41 : decode cX10_begin 41 = .ok (.aload_n 0, 1) := by decide +kernel
theorem dX10_begin_42 : decode cX10_begin 42 = .ok (.getfield 46, 3) := by decide +kernel
theorem dX10_begin_45 : decode cX10_begin 45 = .ok (.aload_n 0, 1) := by decide +kernel
theorem dX10_begin_46 : decode cX10_begin 46 = .ok (.getfield 119, 3) := by decide +kernel
theorem dX10_begin_49 : decode cX10_begin 49 = .ok (.iconst 0, 1) := by decide +kernel
theorem dX10_begin_50 : decode cX10_begin 50 = .ok (.iastore, 1) := by decide +kernel
theorem dX10_begin_51 : decode cX10_begin 51 = .ok (.iload_n 1, 1) := by decide +kernel
theorem dX10_begin_52 : decode cX10_begin 52 = .ok (.lookupswitch 56 #[(46, 50), (104, 48), (108, 46), (115, 44)], 44) := by decide +kernel
theorem dX10_begin_96 : decode cX10_begin 96 = .ok (.iconst 1, 1) := by decide +kernel
theorem dX10_begin_97 : decode cX10_begin 97 = .ok (.ireturn, 1) := by decide +kernel
theorem dX10_begin_98 : decode cX10_begin 98 = .ok (.iconst 4, 1) := by decide +kernel
theorem dX10_begin_99 : decode cX10_begin 99 = .ok (.ireturn, 1) := by decide +kernel
theorem dX10_begin_100 : decode cX10_begin 100 = .ok (.iconst 5, 1) := by decide +kernel
theorem dX10_begin_101 : decode cX10_begin 101 = .ok (.ireturn, 1) := by decide +kernel
theorem dX10_begin_102 : decode cX10_begin 102 = .ok (.aload_n 0, 1) := by decide +kernel
theorem dX10_begin_103 : decode cX10_begin 103 = .ok (.iconst 4, 1) := by decide +kernel
theorem dX10_begin_104 : decode cX10_begin 104 = .ok (.invokevirtual 126, 3) := by decide +kernel
theorem dX10_begin_107 : decode cX10_begin 107 = .ok (.ireturn, 1) := by decide +kernel
theorem dX10_begin_108 : decode cX10_begin 108 = .ok (.iload_n 1, 1) := by decide +kernel
theorem dX10_begin_109 : decode cX10_begin 109 = .ok (.i2l, 1) := by decide +kernel
theorem dX10_begin_110 : decode cX10_begin 110 = .ok (.ldc2_w 122, 3) := by decide +kernel
theorem dX10_begin_113 : decode cX10_begin 113 = .ok (.ldc2_w 124, 3) := by decide +kernel
theorem dX10_begin_116 : decode cX10_begin 116 = .ok (.invokestatic 79, 3) := by decide +kernel
theorem dX10_begin_119 : decode cX10_begin 119 = .ok (.ifCond .eq 8, 3) := by decide +kernel
theorem dX10_begin_122 : decode cX10_begin 122 = .ok (.bipush 6, 2) := by decide +kernel
theorem dX10_begin_124 : decode cX10_begin 124 = .ok (.goto 5, 3) := by decide +kernel
theorem dX10_begin_127 : decode cX10_begin 127 = .ok (.bipush (-6), 2) := by decide +kernel
theorem dX10_begin_129 : decode cX10_begin 129 = .ok (.ireturn, 1) := by decide +kernel
set_option maxRecDepth 20000 in
theorem ggX10_place_X10_isPlace : GoodIn wsX10_place wsX10_isPlace := goodIn_r _ [7, 8, 9, 10, 6, 11] (by decide +kernel) (by decide +kernel)
set_option maxRecDepth 20000 in
theorem gX10_place_X10_isPlace : GoodIn wsX10_place (va_wsS RX10 129 yX10_isPlace wsX10_isPlace) := goodIn_app (goodIn_of _ (by decide +kernel)) ggX10_place_X10_isPlace
set_option maxRecDepth 20000 in
theorem ggX10_place_X10_close : GoodIn wsX10_place wsX10_close := goodIn_r _ [15, 16, 2, 17, 18, 19, 20, 21, 22, 23, 24, 25, 26, 27, 28, 29, 30, 31, 32, 33, 34, 35, 36, 37, 38, 39, 40, 41, 42, 43, 44, 45, 46, 47, 48, 49, 50] (by decide +kernel) (by decide +kernel)
set_option maxRecDepth 20000 in
theorem gX10_place_X10_close : GoodIn wsX10_place (wsV RX10 126 RX10 yX10_close wsX10_close) := goodIn_app (goodIn_of _ (by decide +kernel)) ggX10_place_X10_close
theorem dX10_place_0 : decode cX10_place 0 = .ok (.iload_n 2, 1) := by decide +kernel
theorem dX10_place_1 : decode cX10_place 1 = .ok (.invokestatic 129, 3) := by decide +kernel
theorem dX10_place_4 : decode cX10_place 4 = .ok (.ifCond .ne 6, 3) := by decide +kernel
theorem dX10_place_7 : decode cX10_place 7 = .ok (.bipush (-6), 2) := by decide +kernel
theorem dX10_place_9 : decode cX10_place 9 = .ok (.ireturn, 1) := by decide +kernel
theorem dX10_place_10 : decode cX10_place 10 = .ok (.iload_n 1, 1) := by decide +kernel
theorem dX10_place_11 : decode cX10_place 11 = .ok (.iconst 2, 1) := by decide +kernel
theorem dX10_place_12 : decode cX10_place 12 = .ok (.if_icmp .eq 9, 3) := by decide +kernel
theorem dX10_place_15 : decode cX10_place 15 = .ok (.iload_n 1, 1) := by decide +kernel
theorem dX10_place_16 : decode cX10_place 16 = .ok (.bipush 6, 2) := by decide +kernel
theorem dX10_place_18 : decode cX10_place 18 = .ok (.if_icmp .ne 17, 3) := by decide +kernel
theorem dX10_place_21 : decode cX10_place 21 = .ok (.aload_n 0, 1) := by decide +kernel
theorem dX10_place_22 : decode cX10_place 22 = .ok (.getfield 43, 3) := by decide +kernel
theorem dX10_place_25 : decode cX10_place 25 = .ok (.aload_n 0, 1) := by decide +kernel
theorem dX10_place_26 : decode cX10_place 26 = .ok (.getfield 119, 3) := by decide +kernel
theorem dX10_place_29 : decode cX10_place 29 = .ok (.iload_n 2, 1) := by decide +kernel
theorem dX10_place_30 : decode cX10_place 30 = .ok (.iastore, 1) := by decide +kernel
theorem dX10_place_31 : decode cX10_place 31 = .ok (.iload_n 1, 1) := by decide +kernel
theorem dX10_place_32 : decode cX10_place 32 = .ok (.iconst 1, 1) := by decide +kernel
theorem dX10_place_33 : decode cX10_place 33 = .ok (.iadd, 1) := by decide +kernel
theorem dX10_place_34 : decode cX10_place 34 = .ok (.ireturn, 1) := by decide +kernel
theorem dX10_place_35 : decode cX10_place 35 = .ok (.aload_n 0, 1) := by decide +kernel
theorem dX10_place_36 : decode cX10_place 36 = .ok (.getfield 40, 3) := by decide +kernel
theorem dX10_place_39 : decode cX10_place 39 = .ok (.aload_n 0, 1) := by decide +kernel
theorem dX10_place_40 : decode cX10_place 40 = .ok (.getfield 119, 3) := by decide +kernel
theorem dX10_place_43 : decode cX10_place 43 = .ok (.iload_n 2, 1) := by decide +kernel
theorem dX10_place_44 : decode cX10_place 44 = .ok (.iastore, 1) := by decide +kernel
theorem dX10_place_45 : decode cX10_place 45 = .ok (.iload_n 1, 1) := by decide +kernel
theorem dX10_place_46 : decode cX10_place 46 = .ok (.iconst 1, 1) := by decide +kernel
theorem dX10_place_47 : decode cX10_place 47 = .ok (.if_icmp .ne 7, 3) := by decide +kernel
theorem dX10_place_50 : decode cX10_place 50 = .ok (.iconst 2, 1) := by decide +kernel
theorem dX10_place_51 : decode cX10_place 51 = .ok (.goto 17, 3) := by decide +kernel
theorem dX10_place_54 : decode cX10_place 54 = .ok (.aload_n 0, 1) := by decide +kernel
theorem dX10_place_55 : decode cX10_place 55 = .ok (.iload_n 1, 1) := by decide +kernel
theorem dX10_place_56 : decode cX10_place 56 = .ok (.iconst 4, 1) := by decide +kernel
theorem dX10_place_57 : decode cX10_place 57 = .ok (.if_icmp .ne 7, 3) := by decide +kernel
theorem dX10_place_60 : decode cX10_place 60 = .ok (.iconst 1, 1) := by decide +kernel
theorem dX10_place_61 : decode cX10_place 61 = .ok (.goto 4, 3) := by decide +kernel
theorem dX10_place_64 : decode cX10_place 64 = .ok (.iconst 2, 1) := by decide +kernel
theorem dX10_place_65 : decode cX10_place 65 = .ok (.invokevirtual 126, 3) := by decide +kernel
theorem dX10_place_68 : decode cX10_place 68 = .ok (.ireturn, 1) := by decide +kernel
set_option maxRecDepth 20000 in
theorem ggX10_amount_X10_in : GoodIn wsX10_amount wsX10_in := goodIn_r _ [7] (by decide +kernel) (by decide +kernel)
set_option maxRecDepth 20000 in
theorem gX10_amount_X10_in : GoodIn wsX10_amount (va_wsS RX10 79 yX10_in wsX10_in) := goodIn_app (goodIn_of _ (by decide +kernel)) ggX10_amount_X10_in
set_option maxRecDepth 20000 in
theorem ggX10_amount_X10_close : GoodIn wsX10_amount wsX10_close := goodIn_r _ [11, 12, 2, 13, 14, 15, 16, 17, 18, 19, 20, 21, 22, 23, 24, 25, 26, 27, 28, 29, 30, 31, 32, 33, 34, 35, 36, 37, 38, 39, 40, 41, 42, 43, 44, 45, 46] (by decide +kernel) (by decide +kernel)
set_option maxRecDepth 20000 in
theorem gX10_amount_X10_close : GoodIn wsX10_amount (wsV RX10 126 RX10 yX10_close wsX10_close) := goodIn_app (goodIn_of _ (by decide +kernel)) ggX10_amount_X10_close
theorem dX10_amount_0 : decode cX10_amount 0 = .ok (.aload_n 0, 1) := by decide +kernel
theorem dX10_amount_1 : decode cX10_amount 1 = .ok (.getfield 46, 3) := by decide +kernel
theorem dX10_amount_4 : decode cX10_amount 4 = .ok (.aload_n 0, 1) := by decide +kernel
theorem dX10_amount_5 : decode cX10_amount 5 = .ok (.getfield 119, 3) := by decide +kernel
theorem dX10_amount_8 : decode cX10_amount 8 = .ok (.iload_n 2, 1) := by decide +kernel
theorem dX10_amount_9 : decode cX10_amount 9 = .ok (.iastore, 1) := by decide +kernel
theorem dX10_amount_10 : decode cX10_amount 10 = .ok (.iload_n 2, 1) := by decide +kernel
theorem dX10_amount_11 : decode cX10_amount 11 = .ok (.i2l, 1) := by decide +kernel
theorem dX10_amount_12 : decode cX10_amount 12 = .ok (.lconst 1, 1) := by decide +kernel
theorem dX10_amount_13 : decode cX10_amount 13 = .ok (.ldc2_w 102, 3) := by decide +kernel
theorem dX10_amount_16 : decode cX10_amount 16 = .ok (.invokestatic 79, 3) := by decide +kernel
theorem dX10_amount_19 : decode cX10_amount 19 = .ok (.ifCond .eq 20, 3) := by decide +kernel
theorem dX10_amount_22 : decode cX10_amount 22 = .ok (.aload_n 0, 1) := by decide +kernel
theorem dX10_amount_23 : decode cX10_amount 23 = .ok (.iload_n 1, 1) := by decide +kernel
theorem dX10_amount_24 : decode cX10_amount 24 = .ok (.iconst 3, 1) := by decide +kernel
theorem dX10_amount_25 : decode cX10_amount 25 = .ok (.if_icmp .ne 7, 3) := by decide +kernel
theorem dX10_amount_28 : decode cX10_amount 28 = .ok (.iconst 0, 1) := by decide +kernel
theorem dX10_amount_29 : decode cX10_amount 29 = .ok (.goto 4, 3) := by decide +kernel
theorem dX10_amount_32 : decode cX10_amount 32 = .ok (.iconst 3, 1) := by decide +kernel
theorem dX10_amount_33 : decode cX10_amount 33 = .ok (.invokevirtual 126, 3) := by decide +kernel
theorem dX10_amount_36 : decode cX10_amount 36 = .ok (.goto 5, 3) := by decide +kernel
theorem dX10_amount_39 : decode cX10_amount 39 = .ok (.bipush (-6), 2) := by decide +kernel
theorem dX10_amount_41 : decode cX10_amount 41 = .ok (.ireturn, 1) := by decide +kernel
set_option maxRecDepth 20000 in
theorem ggX10_readOn_X10_begin : GoodIn wsX10_readOn wsX10_begin := goodIn_r _ [5, 6, 7, 8, 9, 10, 11, 12, 13, 4, 14, 15, 16, 17, 18, 19, 33, 34, 35, 36, 37, 38, 39, 40, 41, 42, 43, 44, 45, 46, 47, 48, 49, 50, 51, 52, 53, 54, 55, 56, 57, 58, 59, 60, 61, 62, 63, 64, 65, 66] (by decide +kernel) (by decide +kernel)
set_option maxRecDepth 20000 in
theorem gX10_readOn_X10_begin : GoodIn wsX10_readOn (wsV RX10 132 RX10 yX10_begin wsX10_begin) := goodIn_app (goodIn_of _ (by decide +kernel)) ggX10_readOn_X10_begin
set_option maxRecDepth 20000 in
theorem ggX10_readOn_X10_amount : GoodIn wsX10_readOn wsX10_amount := goodIn_r _ [23, 11, 7, 24, 12, 13, 4, 14, 15, 16, 17, 18, 19, 33, 34, 35, 36, 37, 38, 39, 40, 41, 42, 43, 44, 45, 46, 47, 48, 49, 50, 51, 52, 53, 54, 55, 56, 57, 58, 59, 60, 61, 62, 63, 64, 65, 66] (by decide +kernel) (by decide +kernel)
set_option maxRecDepth 20000 in
theorem gX10_readOn_X10_amount : GoodIn wsX10_readOn (wsV RX10 135 RX10 yX10_amount wsX10_amount) := goodIn_app (goodIn_of _ (by decide +kernel)) ggX10_readOn_X10_amount
set_option maxRecDepth 20000 in
theorem ggX10_readOn_X10_place : GoodIn wsX10_readOn wsX10_place := goodIn_r _ [28, 10, 7, 6, 29, 30, 4, 31, 32, 12, 13, 14, 15, 16, 17, 18, 19, 33, 34, 35, 36, 37, 38, 39, 40, 41, 42, 43, 44, 45, 46, 47, 48, 49, 50, 51, 52, 53, 54, 55, 56, 57, 58, 59, 60, 61, 62, 63, 64, 65, 66] (by decide +kernel) (by decide +kernel)
set_option maxRecDepth 20000 in
theorem gX10_readOn_X10_place : GoodIn wsX10_readOn (wsV RX10 139 RX10 yX10_place wsX10_place) := goodIn_app (goodIn_of _ (by decide +kernel)) ggX10_readOn_X10_place
theorem dX10_readOn_0 : decode cX10_readOn 0 = .ok (.iload_n 1, 1) := by decide +kernel
theorem dX10_readOn_1 : decode cX10_readOn 1 = .ok (.ifCond .ne 9, 3) := by decide +kernel
theorem dX10_readOn_4 : decode cX10_readOn 4 = .ok (.aload_n 0, 1) := by decide +kernel
theorem dX10_readOn_5 : decode cX10_readOn 5 = .ok (.iload_n 2, 1) := by decide +kernel
theorem dX10_readOn_6 : decode cX10_readOn 6 = .ok (.invokevirtual 132, 3) := by decide +kernel
theorem dX10_readOn_9 : decode cX10_readOn 9 = .ok (.ireturn, 1) := by decide +kernel
theorem dX10_readOn_10 : decode cX10_readOn 10 = .ok (.iload_n 1, 1) := by decide +kernel
theorem dX10_readOn_11 : decode cX10_readOn 11 = .ok (.iconst 3, 1) := by decide +kernel
theorem dX10_readOn_12 : decode cX10_readOn 12 = .ok (.if_icmp .eq 9, 3) := by decide +kernel
theorem dX10_readOn_15 : decode cX10_readOn 15 = .ok (.iload_n 1, 1) := by decide +kernel
theorem dX10_readOn_16 : decode cX10_readOn 16 = .ok (.bipush 7, 2) := by decide +kernel
theorem dX10_readOn_18 : decode cX10_readOn 18 = .ok (.if_icmp .ne 15, 3) := by decide +kernel
theorem dX10_readOn_21 : decode cX10_readOn 21 = .ok (.aload_n 0, 1) := by decide +kernel
theorem dX10_readOn_22 : decode cX10_readOn 22 = .ok (.iload_n 1, 1) := by decide +kernel
theorem dX10_readOn_23 : decode cX10_readOn 23 = .ok (.iload_n 2, 1) := by decide +kernel
theorem dX10_readOn_24 : decode cX10_readOn 24 = .ok (.bipush 48, 2) := by decide +kernel
theorem dX10_readOn_26 : decode cX10_readOn 26 = .ok (.isub, 1) := by decide +kernel
theorem dX10_readOn_27 : decode cX10_readOn 27 = .ok (.invokevirtual 135, 3) := by decide +kernel
theorem dX10_readOn_30 : decode cX10_readOn 30 = .ok (.goto 12, 3) := by decide +kernel
theorem dX10_readOn_33 : decode cX10_readOn 33 = .ok (.aload_n 0, 1) := by decide +kernel
theorem dX10_readOn_34 : decode cX10_readOn 34 = .ok (.iload_n 1, 1) := by decide +kernel
theorem dX10_readOn_35 : decode cX10_readOn 35 = .ok (.iload_n 2, 1) := by decide +kernel
theorem dX10_readOn_36 : decode cX10_readOn 36 = .ok (.bipush 48, 2) := by decide +kernel
theorem dX10_readOn_38 : decode cX10_readOn 38 = .ok (.isub, 1) := by decide +kernel
theorem dX10_readOn_39 : decode cX10_readOn 39 = .ok (.invokevirtual 139, 3) := by decide +kernel
theorem dX10_readOn_42 : decode cX10_readOn 42 = .ok (.ireturn, 1) := by decide +kernel
set_option maxRecDepth 20000 in
theorem ggX10_fault_X10_readOn : GoodIn wsX10_fault wsX10_readOn := goodIn_r _ [8, 9, 10, 11, 7, 12, 13, 1, 14, 15, 16, 17, 18, 19, 20, 21, 22, 23, 24, 25, 26, 27, 28, 29, 30, 31, 32, 33, 34, 35, 36, 37, 38, 39, 40, 41, 42, 43, 44, 45, 46, 47, 48, 49, 50, 51, 52, 53, 54, 55, 56, 57, 58, 59, 60, 61, 62, 63, 64, 65, 66, 67, 68, 69, 70, 71, 72] (by decide +kernel) (by decide +kernel)
set_option maxRecDepth 20000 in
theorem gX10_fault_X10_readOn : GoodIn wsX10_fault (wsV RX10 142 RX10 yX10_readOn wsX10_readOn) := goodIn_app (goodIn_of _ (by decide +kernel)) ggX10_fault_X10_readOn
theorem dX10_fault_0 : decode cX10_fault 0 = .ok (.aload_n 0, 1) := by decide +kernel
theorem dX10_fault_1 : decode cX10_fault 1 = .ok (.iconst 0, 1) := by decide +kernel
theorem dX10_fault_2 : decode cX10_fault 2 = .ok (.putfield 119, 3) := by decide +kernel
theorem dX10_fault_5 : decode cX10_fault 5 = .ok (.iconst 0, 1) := by decide +kernel
theorem dX10_fault_6 : decode cX10_fault 6 = .ok (.istore_n 1, 1) := by decide +kernel
theorem dX10_fault_7 : decode cX10_fault 7 = .ok (.iconst 0, 1) := by decide +kernel
theorem dX10_fault_8 : decode cX10_fault 8 = .ok (.istore_n 2, 1) := by decide +kernel
theorem dX10_fault_9 : decode cX10_fault 9 = .ok (.iload_n 2, 1) := by decide +kernel
theorem dX10_fault_10 : decode cX10_fault 10 = .ok (.aload_n 0, 1) := by decide +kernel
theorem dX10_fault_11 : decode cX10_fault 11 = .ok (.getfield 116, 3) := by decide +kernel
theorem dX10_fault_14 : decode cX10_fault 14 = .ok (.if_icmp .ge 27, 3) := by decide +kernel
theorem dX10_fault_17 : decode cX10_fault 17 = .ok (.aload_n 0, 1) := by decide +kernel
theorem dX10_fault_18 : decode cX10_fault 18 = .ok (.iload_n 1, 1) := by decide +kernel
theorem dX10_fault_19 : decode cX10_fault 19 = .ok (.aload_n 0, 1) := by decide +kernel
theorem dX10_fault_20 : decode cX10_fault 20 = .ok (.getfield 34, 3) := by decide +kernel
theorem dX10_fault_23 : decode cX10_fault 23 = .ok (.iload_n 2, 1) := by decide +kernel
theorem dX10_fault_24 : decode cX10_fault 24 = .ok (.iaload, 1) := by decide +kernel
theorem dX10_fault_25 : decode cX10_fault 25 = .ok (.invokevirtual 142, 3) := by decide +kernel
theorem dX10_fault_28 : decode cX10_fault 28 = .ok (.istore_n 1, 1) := by decide +kernel
theorem dX10_fault_29 : decode cX10_fault 29 = .ok (.iload_n 1, 1) := by decide +kernel
theorem dX10_fault_30 : decode cX10_fault 30 = .ok (.ifCond .ge 5, 3) := by decide +kernel
theorem dX10_fault_33 : decode cX10_fault 33 = .ok (.iload_n 2, 1) := by decide +kernel
theorem dX10_fault_34 : decode cX10_fault 34 = .ok (.ireturn, 1) := by decide +kernel
theorem dX10_fault_35 : decode cX10_fault 35 = .ok (.iinc 2 1, 3) := by decide +kernel
theorem dX10_fault_38 : decode cX10_fault 38 = .ok (.goto (-29), 3) := by decide +kernel
theorem dX10_fault_41 : decode cX10_fault 41 = .ok (.iload_n 1, 1) := by decide +kernel
theorem dX10_fault_42 : decode cX10_fault 42 = .ok (.ifCond .ne 8, 3) := by decide +kernel
theorem dX10_fault_45 : decode cX10_fault 45 = .ok (.bipush (-6), 2) := by decide +kernel
theorem dX10_fault_47 : decode cX10_fault 47 = .ok (.goto 7, 3) := by decide +kernel
theorem dX10_fault_50 : decode cX10_fault 50 = .ok (.aload_n 0, 1) := by decide +kernel
theorem dX10_fault_51 : decode cX10_fault 51 = .ok (.getfield 116, 3) := by decide +kernel
theorem dX10_fault_54 : decode cX10_fault 54 = .ok (.ireturn, 1) := by decide +kernel
theorem dX10_whyNot_0 : decode cX10_whyNot 0 = .ok (.iload_n 1, 1) := by decide +kernel
theorem dX10_whyNot_1 : decode cX10_whyNot 1 = .ok (.tableswitch 87 0 3 #[31, 42, 44, 70], 31) := by decide +kernel
theorem dX10_whyNot_32 : decode cX10_whyNot 32 = .ok (.iload_n 2, 1) := by decide +kernel
theorem dX10_whyNot_33 : decode cX10_whyNot 33 = .ok (.iload_n 3, 1) := by decide +kernel
theorem dX10_whyNot_34 : decode cX10_whyNot 34 = .ok (.if_icmp .ne 7, 3) := by decide +kernel
theorem dX10_whyNot_37 : decode cX10_whyNot 37 = .ok (.iconst 1, 1) := by decide +kernel
theorem dX10_whyNot_38 : decode cX10_whyNot 38 = .ok (.goto 4, 3) := by decide +kernel
theorem dX10_whyNot_41 : decode cX10_whyNot 41 = .ok (.iconst 0, 1) := by decide +kernel
theorem dX10_whyNot_42 : decode cX10_whyNot 42 = .ok (.ireturn, 1) := by decide +kernel
theorem dX10_whyNot_43 : decode cX10_whyNot 43 = .ok (.iconst 0, 1) := by decide +kernel
theorem dX10_whyNot_44 : decode cX10_whyNot 44 = .ok (.ireturn, 1) := by decide +kernel
theorem dX10_whyNot_45 : decode cX10_whyNot 45 = .ok (.aload_n 0, 1) := by decide +kernel
theorem dX10_whyNot_46 : decode cX10_whyNot 46 = .ok (.getfield 95, 3) := by decide +kernel
theorem dX10_whyNot_49 : decode cX10_whyNot 49 = .ok (.ifCond .lt 20, 3) := by decide +kernel
theorem dX10_whyNot_52 : decode cX10_whyNot 52 = .ok (.aload_n 0, 1) := by decide +kernel
theorem dX10_whyNot_53 : decode cX10_whyNot 53 = .ok (.getfield 7, 3) := by decide +kernel
theorem dX10_whyNot_56 : decode cX10_whyNot 56 = .ok (.iload_n 2, 1) := by decide +kernel
theorem dX10_whyNot_57 : decode cX10_whyNot 57 = .ok (.iaload, 1) := by decide +kernel
theorem dX10_whyNot_58 : decode cX10_whyNot 58 = .ok (.aload_n 0, 1) := by decide +kernel
theorem dX10_whyNot_59 : decode cX10_whyNot 59 = .ok (.getfield 95, 3) := by decide +kernel
theorem dX10_whyNot_62 : decode cX10_whyNot 62 = .ok (.if_icmp .eq 7, 3) := by decide +kernel
theorem dX10_whyNot_65 : decode cX10_whyNot 65 = .ok (.iconst 2, 1) := by decide +kernel
theorem dX10_whyNot_66 : decode cX10_whyNot 66 = .ok (.goto 4, 3) := by decide +kernel
theorem dX10_whyNot_69 : decode cX10_whyNot 69 = .ok (.iconst 0, 1) := by decide +kernel
theorem dX10_whyNot_70 : decode cX10_whyNot 70 = .ok (.ireturn, 1) := by decide +kernel
theorem dX10_whyNot_71 : decode cX10_whyNot 71 = .ok (.aload_n 0, 1) := by decide +kernel
theorem dX10_whyNot_72 : decode cX10_whyNot 72 = .ok (.getfield 16, 3) := by decide +kernel
theorem dX10_whyNot_75 : decode cX10_whyNot 75 = .ok (.iload_n 2, 1) := by decide +kernel
theorem dX10_whyNot_76 : decode cX10_whyNot 76 = .ok (.iaload, 1) := by decide +kernel
theorem dX10_whyNot_77 : decode cX10_whyNot 77 = .ok (.iload 4, 2) := by decide +kernel
theorem dX10_whyNot_79 : decode cX10_whyNot 79 = .ok (.if_icmp .ge 7, 3) := by decide +kernel
theorem dX10_whyNot_82 : decode cX10_whyNot 82 = .ok (.iconst 3, 1) := by decide +kernel
theorem dX10_whyNot_83 : decode cX10_whyNot 83 = .ok (.goto 4, 3) := by decide +kernel
theorem dX10_whyNot_86 : decode cX10_whyNot 86 = .ok (.iconst 0, 1) := by decide +kernel
theorem dX10_whyNot_87 : decode cX10_whyNot 87 = .ok (.ireturn, 1) := by decide +kernel
theorem dX10_whyNot_88 : decode cX10_whyNot 88 = .ok (.aload_n 0, 1) := by decide +kernel
theorem dX10_whyNot_89 : decode cX10_whyNot 89 = .ok (.getfield 145, 3) := by decide +kernel
theorem dX10_whyNot_92 : decode cX10_whyNot 92 = .ok (.bipush 99, 2) := by decide +kernel
theorem dX10_whyNot_94 : decode cX10_whyNot 94 = .ok (.if_icmp .ne 7, 3) := by decide +kernel
theorem dX10_whyNot_97 : decode cX10_whyNot 97 = .ok (.iconst 4, 1) := by decide +kernel
theorem dX10_whyNot_98 : decode cX10_whyNot 98 = .ok (.goto 4, 3) := by decide +kernel
theorem dX10_whyNot_101 : decode cX10_whyNot 101 = .ok (.iconst 0, 1) := by decide +kernel
theorem dX10_whyNot_102 : decode cX10_whyNot 102 = .ok (.ireturn, 1) := by decide +kernel
set_option maxRecDepth 20000 in
theorem ggX10_turned_X10_has : GoodIn wsX10_turned wsX10_has := goodIn_r _ [4] (by decide +kernel) (by decide +kernel)
set_option maxRecDepth 20000 in
theorem gX10_turned_X10_has : GoodIn wsX10_turned (va_wsS RX10 148 yX10_has wsX10_has) := goodIn_app (goodIn_of _ (by decide +kernel)) ggX10_turned_X10_has
theorem dX10_turned_0 : decode cX10_turned 0 = .ok (.iload_n 0, 1) := by decide +kernel
theorem dX10_turned_1 : decode cX10_turned 1 = .ok (.iconst 1, 1) := by decide +kernel
theorem dX10_turned_2 : decode cX10_turned 2 = .ok (.iload_n 1, 1) := by decide +kernel
theorem dX10_turned_3 : decode cX10_turned 3 = .ok (.ishl, 1) := by decide +kernel
theorem dX10_turned_4 : decode cX10_turned 4 = .ok (.iconst (-1), 1) := by decide +kernel
theorem dX10_turned_5 : decode cX10_turned 5 = .ok (.ixor, 1) := by decide +kernel
theorem dX10_turned_6 : decode cX10_turned 6 = .ok (.iand, 1) := by decide +kernel
theorem dX10_turned_7 : decode cX10_turned 7 = .ok (.iconst 1, 1) := by decide +kernel
theorem dX10_turned_8 : decode cX10_turned 8 = .ok (.iload_n 2, 1) := by decide +kernel
theorem dX10_turned_9 : decode cX10_turned 9 = .ok (.ishl, 1) := by decide +kernel
theorem dX10_turned_10 : decode cX10_turned 10 = .ok (.iconst (-1), 1) := by decide +kernel
theorem dX10_turned_11 : decode cX10_turned 11 = .ok (.ixor, 1) := by decide +kernel
theorem dX10_turned_12 : decode cX10_turned 12 = .ok (.iand, 1) := by decide +kernel
theorem dX10_turned_13 : decode cX10_turned 13 = .ok (.istore_n 3, 1) := by decide +kernel
theorem dX10_turned_14 : decode cX10_turned 14 = .ok (.iload_n 3, 1) := by decide +kernel
theorem dX10_turned_15 : decode cX10_turned 15 = .ok (.iload_n 0, 1) := by decide +kernel
theorem dX10_turned_16 : decode cX10_turned 16 = .ok (.iload_n 1, 1) := by decide +kernel
theorem dX10_turned_17 : decode cX10_turned 17 = .ok (.invokestatic 148, 3) := by decide +kernel
theorem dX10_turned_20 : decode cX10_turned 20 = .ok (.ifCond .eq 9, 3) := by decide +kernel
theorem dX10_turned_23 : decode cX10_turned 23 = .ok (.iconst 1, 1) := by decide +kernel
theorem dX10_turned_24 : decode cX10_turned 24 = .ok (.iload_n 2, 1) := by decide +kernel
theorem dX10_turned_25 : decode cX10_turned 25 = .ok (.ishl, 1) := by decide +kernel
theorem dX10_turned_26 : decode cX10_turned 26 = .ok (.goto 4, 3) := by decide +kernel
theorem dX10_turned_29 : decode cX10_turned 29 = .ok (.iconst 0, 1) := by decide +kernel
theorem dX10_turned_30 : decode cX10_turned 30 = .ok (.ior, 1) := by decide +kernel
theorem dX10_turned_31 : decode cX10_turned 31 = .ok (.iload_n 0, 1) := by decide +kernel
theorem dX10_turned_32 : decode cX10_turned 32 = .ok (.iload_n 2, 1) := by decide +kernel
theorem dX10_turned_33 : decode cX10_turned 33 = .ok (.invokestatic 148, 3) := by decide +kernel
theorem dX10_turned_36 : decode cX10_turned 36 = .ok (.ifCond .eq 9, 3) := by decide +kernel
theorem dX10_turned_39 : decode cX10_turned 39 = .ok (.iconst 1, 1) := by decide +kernel
theorem dX10_turned_40 : decode cX10_turned 40 = .ok (.iload_n 1, 1) := by decide +kernel
theorem dX10_turned_41 : decode cX10_turned 41 = .ok (.ishl, 1) := by decide +kernel
theorem dX10_turned_42 : decode cX10_turned 42 = .ok (.goto 4, 3) := by decide +kernel
theorem dX10_turned_45 : decode cX10_turned 45 = .ok (.iconst 0, 1) := by decide +kernel
theorem dX10_turned_46 : decode cX10_turned 46 = .ok (.ior, 1) := by decide +kernel
theorem dX10_turned_47 : decode cX10_turned 47 = .ok (.ireturn, 1) := by decide +kernel
set_option maxRecDepth 20000 in
theorem ggX10_change_X10_turned : GoodIn wsX10_change wsX10_turned := goodIn_r _ [7, 8, 9, 6, 10] (by decide +kernel) (by decide +kernel)
set_option maxRecDepth 20000 in
theorem gX10_change_X10_turned : GoodIn wsX10_change (va_wsS RX10 152 yX10_turned wsX10_turned) := goodIn_app (goodIn_of _ (by decide +kernel)) ggX10_change_X10_turned
theorem dX10_change_0 : decode cX10_change 0 = .ok (.aload_n 0, 1) := by decide +kernel
theorem dX10_change_1 : decode cX10_change 1 = .ok (.getfield 7, 3) := by decide +kernel
theorem dX10_change_4 : decode cX10_change 4 = .ok (.iload_n 1, 1) := by decide +kernel
theorem dX10_change_5 : decode cX10_change 5 = .ok (.iaload, 1) := by decide +kernel
theorem dX10_change_6 : decode cX10_change 6 = .ok (.istore 4, 2) := by decide +kernel
theorem dX10_change_8 : decode cX10_change 8 = .ok (.aload_n 0, 1) := by decide +kernel
theorem dX10_change_9 : decode cX10_change 9 = .ok (.getfield 7, 3) := by decide +kernel
theorem dX10_change_12 : decode cX10_change 12 = .ok (.iload_n 1, 1) := by decide +kernel
theorem dX10_change_13 : decode cX10_change 13 = .ok (.aload_n 0, 1) := by decide +kernel
theorem dX10_change_14 : decode cX10_change 14 = .ok (.getfield 7, 3) := by decide +kernel
theorem dX10_change_17 : decode cX10_change 17 = .ok (.iload_n 2, 1) := by decide +kernel
theorem dX10_change_18 : decode cX10_change 18 = .ok (.iaload, 1) := by decide +kernel
theorem dX10_change_19 : decode cX10_change 19 = .ok (.iastore, 1) := by decide +kernel
theorem dX10_change_20 : decode cX10_change 20 = .ok (.aload_n 0, 1) := by decide +kernel
theorem dX10_change_21 : decode cX10_change 21 = .ok (.getfield 7, 3) := by decide +kernel
theorem dX10_change_24 : decode cX10_change 24 = .ok (.iload_n 2, 1) := by decide +kernel
theorem dX10_change_25 : decode cX10_change 25 = .ok (.iload 4, 2) := by decide +kernel
theorem dX10_change_27 : decode cX10_change 27 = .ok (.iastore, 1) := by decide +kernel
theorem dX10_change_28 : decode cX10_change 28 = .ok (.iconst 0, 1) := by decide +kernel
theorem dX10_change_29 : decode cX10_change 29 = .ok (.istore 5, 2) := by decide +kernel
theorem dX10_change_31 : decode cX10_change 31 = .ok (.iload 5, 2) := by decide +kernel
theorem dX10_change_33 : decode cX10_change 33 = .ok (.iconst 4, 1) := by decide +kernel
theorem dX10_change_34 : decode cX10_change 34 = .ok (.if_icmp .ge 44, 3) := by decide +kernel
theorem dX10_change_37 : decode cX10_change 37 = .ok (.aload_n 0, 1) := by decide +kernel
theorem dX10_change_38 : decode cX10_change 38 = .ok (.getfield 19, 3) := by decide +kernel
theorem dX10_change_41 : decode cX10_change 41 = .ok (.iload 5, 2) := by decide +kernel
theorem dX10_change_43 : decode cX10_change 43 = .ok (.aload_n 0, 1) := by decide +kernel
theorem dX10_change_44 : decode cX10_change 44 = .ok (.getfield 13, 3) := by decide +kernel
theorem dX10_change_47 : decode cX10_change 47 = .ok (.iload 5, 2) := by decide +kernel
theorem dX10_change_49 : decode cX10_change 49 = .ok (.iaload, 1) := by decide +kernel
theorem dX10_change_50 : decode cX10_change 50 = .ok (.iload_n 3, 1) := by decide +kernel
theorem dX10_change_51 : decode cX10_change 51 = .ok (.if_icmp .lt 18, 3) := by decide +kernel
theorem dX10_change_54 : decode cX10_change 54 = .ok (.aload_n 0, 1) := by decide +kernel
theorem dX10_change_55 : decode cX10_change 55 = .ok (.getfield 19, 3) := by decide +kernel
theorem dX10_change_58 : decode cX10_change 58 = .ok (.iload 5, 2) := by decide +kernel
theorem dX10_change_60 : decode cX10_change 60 = .ok (.iaload, 1) := by decide +kernel
theorem dX10_change_61 : decode cX10_change 61 = .ok (.iload_n 1, 1) := by decide +kernel
theorem dX10_change_62 : decode cX10_change 62 = .ok (.iload_n 2, 1) := by decide +kernel
theorem dX10_change_63 : decode cX10_change 63 = .ok (.invokestatic 152, 3) := by decide +kernel
theorem dX10_change_66 : decode cX10_change 66 = .ok (.goto 5, 3) := by decide +kernel
theorem dX10_change_69 : decode cX10_change 69 = .ok (.bipush 63, 2) := by decide +kernel
theorem dX10_change_71 : decode cX10_change 71 = .ok (.iastore, 1) := by decide +kernel
theorem dX10_change_72 : decode cX10_change 72 = .ok (.iinc 5 1, 3) := by decide +kernel
theorem dX10_change_75 : decode cX10_change 75 = .ok (.goto (-44), 3) := by decide +kernel
theorem dX10_change_78 : decode cX10_change 78 = .ok (.return_, 1) := by decide +kernel
set_option maxRecDepth 20000 in
theorem ggX10_lift_X10_peaPlace : GoodIn wsX10_lift wsX10_peaPlace := goodIn_r _ [6, 7, 8, 9, 10, 5, 11, 12, 13, 14, 15, 16, 17, 18, 19, 20, 21, 22, 23, 24, 25, 26, 27, 28, 29, 30, 31, 32, 33, 34, 35, 36, 37, 38, 39, 40, 41, 42, 43, 44, 45, 46] (by decide +kernel) (by decide +kernel)
set_option maxRecDepth 20000 in
theorem gX10_lift_X10_peaPlace : GoodIn wsX10_lift (wsV RX10 156 RX10 yX10_peaPlace wsX10_peaPlace) := goodIn_app (goodIn_of _ (by decide +kernel)) ggX10_lift_X10_peaPlace
theorem dX10_lift_0 : decode cX10_lift 0 = .ok (.aload_n 0, 1) := by decide +kernel
theorem dX10_lift_1 : decode cX10_lift 1 = .ok (.invokevirtual 156, 3) := by decide +kernel
theorem dX10_lift_4 : decode cX10_lift 4 = .ok (.iload_n 1, 1) := by decide +kernel
theorem dX10_lift_5 : decode cX10_lift 5 = .ok (.if_icmp .ne 7, 3) := by decide +kernel
theorem dX10_lift_8 : decode cX10_lift 8 = .ok (.iconst 1, 1) := by decide +kernel
theorem dX10_lift_9 : decode cX10_lift 9 = .ok (.goto 4, 3) := by decide +kernel
theorem dX10_lift_12 : decode cX10_lift 12 = .ok (.iconst 0, 1) := by decide +kernel
theorem dX10_lift_13 : decode cX10_lift 13 = .ok (.istore_n 2, 1) := by decide +kernel
theorem dX10_lift_14 : decode cX10_lift 14 = .ok (.iconst 0, 1) := by decide +kernel
theorem dX10_lift_15 : decode cX10_lift 15 = .ok (.istore_n 3, 1) := by decide +kernel
theorem dX10_lift_16 : decode cX10_lift 16 = .ok (.iload_n 3, 1) := by decide +kernel
theorem dX10_lift_17 : decode cX10_lift 17 = .ok (.iconst 4, 1) := by decide +kernel
theorem dX10_lift_18 : decode cX10_lift 18 = .ok (.if_icmp .ge 57, 3) := by decide +kernel
theorem dX10_lift_21 : decode cX10_lift 21 = .ok (.aload_n 0, 1) := by decide +kernel
theorem dX10_lift_22 : decode cX10_lift 22 = .ok (.getfield 19, 3) := by decide +kernel
theorem dX10_lift_25 : decode cX10_lift 25 = .ok (.iload_n 3, 1) := by decide +kernel
theorem dX10_lift_26 : decode cX10_lift 26 = .ok (.iaload, 1) := by decide +kernel
theorem dX10_lift_27 : decode cX10_lift 27 = .ok (.iconst 1, 1) := by decide +kernel
theorem dX10_lift_28 : decode cX10_lift 28 = .ok (.iload_n 1, 1) := by decide +kernel
theorem dX10_lift_29 : decode cX10_lift 29 = .ok (.ishl, 1) := by decide +kernel
theorem dX10_lift_30 : decode cX10_lift 30 = .ok (.iconst (-1), 1) := by decide +kernel
theorem dX10_lift_31 : decode cX10_lift 31 = .ok (.ixor, 1) := by decide +kernel
theorem dX10_lift_32 : decode cX10_lift 32 = .ok (.iand, 1) := by decide +kernel
theorem dX10_lift_33 : decode cX10_lift 33 = .ok (.istore 4, 2) := by decide +kernel
theorem dX10_lift_35 : decode cX10_lift 35 = .ok (.aload_n 0, 1) := by decide +kernel
theorem dX10_lift_36 : decode cX10_lift 36 = .ok (.getfield 19, 3) := by decide +kernel
theorem dX10_lift_39 : decode cX10_lift 39 = .ok (.iload_n 3, 1) := by decide +kernel
theorem dX10_lift_40 : decode cX10_lift 40 = .ok (.iload_n 2, 1) := by decide +kernel
theorem dX10_lift_41 : decode cX10_lift 41 = .ok (.ifCond .eq 9, 3) := by decide +kernel
theorem dX10_lift_44 : decode cX10_lift 44 = .ok (.iconst 1, 1) := by decide +kernel
theorem dX10_lift_45 : decode cX10_lift 45 = .ok (.iload_n 1, 1) := by decide +kernel
theorem dX10_lift_46 : decode cX10_lift 46 = .ok (.ishl, 1) := by decide +kernel
theorem dX10_lift_47 : decode cX10_lift 47 = .ok (.goto 21, 3) := by decide +kernel
theorem dX10_lift_50 : decode cX10_lift 50 = .ok (.iload 4, 2) := by decide +kernel
theorem dX10_lift_52 : decode cX10_lift 52 = .ok (.ifCond .ne 14, 3) := by decide +kernel
theorem dX10_lift_55 : decode cX10_lift 55 = .ok (.bipush 63, 2) := by decide +kernel
theorem dX10_lift_57 : decode cX10_lift 57 = .ok (.iconst 1, 1) := by decide +kernel
theorem dX10_lift_58 : decode cX10_lift 58 = .ok (.iload_n 1, 1) := by decide +kernel
theorem dX10_lift_59 : decode cX10_lift 59 = .ok (.ishl, 1) := by decide +kernel
theorem dX10_lift_60 : decode cX10_lift 60 = .ok (.iconst (-1), 1) := by decide +kernel
theorem dX10_lift_61 : decode cX10_lift 61 = .ok (.ixor, 1) := by decide +kernel
theorem dX10_lift_62 : decode cX10_lift 62 = .ok (.iand, 1) := by decide +kernel
theorem dX10_lift_63 : decode cX10_lift 63 = .ok (.goto 5, 3) := by decide +kernel
theorem dX10_lift_66 : decode cX10_lift 66 = .ok (.iload 4, 2) := by decide +kernel
theorem dX10_lift_68 : decode cX10_lift 68 = .ok (.iastore, 1) := by decide +kernel
theorem dX10_lift_69 : decode cX10_lift 69 = .ok (.iinc 3 1, 3) := by decide +kernel
theorem dX10_lift_72 : decode cX10_lift 72 = .ok (.goto (-56), 3) := by decide +kernel
theorem dX10_lift_75 : decode cX10_lift 75 = .ok (.return_, 1) := by decide +kernel
set_option maxRecDepth 20000 in
theorem ggX10_bet_X10_peaPlace : GoodIn wsX10_bet wsX10_peaPlace := goodIn_r _ [7, 8, 9, 10, 11, 6, 12, 13, 17, 18, 19, 20, 21, 22, 23, 24, 25, 26, 27, 28, 29, 30, 31, 32, 33, 34, 35, 36, 37, 38, 39, 40, 41, 42, 43, 44, 45, 46, 47, 48, 49, 50] (by decide +kernel) (by decide +kernel)
set_option maxRecDepth 20000 in
theorem gX10_bet_X10_peaPlace : GoodIn wsX10_bet (wsV RX10 156 RX10 yX10_peaPlace wsX10_peaPlace) := goodIn_app (goodIn_of _ (by decide +kernel)) ggX10_bet_X10_peaPlace
set_option maxRecDepth 20000 in
theorem ggX10_bet_X10_less : GoodIn wsX10_bet wsX10_less := goodIn_r _ [16] (by decide +kernel) (by decide +kernel)
set_option maxRecDepth 20000 in
theorem gX10_bet_X10_less : GoodIn wsX10_bet (va_wsS RX10 159 yX10_less wsX10_less) := goodIn_app (goodIn_of _ (by decide +kernel)) ggX10_bet_X10_less
theorem dX10_bet_0 : decode cX10_bet 0 = .ok (.aload_n 0, 1) := by decide +kernel
theorem dX10_bet_1 : decode cX10_bet 1 = .ok (.invokevirtual 156, 3) := by decide +kernel
theorem dX10_bet_4 : decode cX10_bet 4 = .ok (.iload_n 2, 1) := by decide +kernel
theorem dX10_bet_5 : decode cX10_bet 5 = .ok (.if_icmp .ne 7, 3) := by decide +kernel
theorem dX10_bet_8 : decode cX10_bet 8 = .ok (.iconst 1, 1) := by decide +kernel
theorem dX10_bet_9 : decode cX10_bet 9 = .ok (.goto 4, 3) := by decide +kernel
theorem dX10_bet_12 : decode cX10_bet 12 = .ok (.iconst 0, 1) := by decide +kernel
theorem dX10_bet_13 : decode cX10_bet 13 = .ok (.istore 4, 2) := by decide +kernel
theorem dX10_bet_15 : decode cX10_bet 15 = .ok (.aload_n 0, 1) := by decide +kernel
theorem dX10_bet_16 : decode cX10_bet 16 = .ok (.getfield 16, 3) := by decide +kernel
theorem dX10_bet_19 : decode cX10_bet 19 = .ok (.iload_n 1, 1) := by decide +kernel
theorem dX10_bet_20 : decode cX10_bet 20 = .ok (.iload 4, 2) := by decide +kernel
theorem dX10_bet_22 : decode cX10_bet 22 = .ok (.ifCond .eq 20, 3) := by decide +kernel
theorem dX10_bet_25 : decode cX10_bet 25 = .ok (.sipush 999, 3) := by decide +kernel
theorem dX10_bet_28 : decode cX10_bet 28 = .ok (.aload_n 0, 1) := by decide +kernel
theorem dX10_bet_29 : decode cX10_bet 29 = .ok (.getfield 16, 3) := by decide +kernel
theorem dX10_bet_32 : decode cX10_bet 32 = .ok (.iload_n 1, 1) := by decide +kernel
theorem dX10_bet_33 : decode cX10_bet 33 = .ok (.iaload, 1) := by decide +kernel
theorem dX10_bet_34 : decode cX10_bet 34 = .ok (.iload_n 3, 1) := by decide +kernel
theorem dX10_bet_35 : decode cX10_bet 35 = .ok (.iadd, 1) := by decide +kernel
theorem dX10_bet_36 : decode cX10_bet 36 = .ok (.invokestatic 159, 3) := by decide +kernel
theorem dX10_bet_39 : decode cX10_bet 39 = .ok (.goto 11, 3) := by decide +kernel
theorem dX10_bet_42 : decode cX10_bet 42 = .ok (.aload_n 0, 1) := by decide +kernel
theorem dX10_bet_43 : decode cX10_bet 43 = .ok (.getfield 16, 3) := by decide +kernel
theorem dX10_bet_46 : decode cX10_bet 46 = .ok (.iload_n 1, 1) := by decide +kernel
theorem dX10_bet_47 : decode cX10_bet 47 = .ok (.iaload, 1) := by decide +kernel
theorem dX10_bet_48 : decode cX10_bet 48 = .ok (.iload_n 3, 1) := by decide +kernel
theorem dX10_bet_49 : decode cX10_bet 49 = .ok (.isub, 1) := by decide +kernel
theorem dX10_bet_50 : decode cX10_bet 50 = .ok (.iastore, 1) := by decide +kernel
theorem dX10_bet_51 : decode cX10_bet 51 = .ok (.aload_n 0, 1) := by decide +kernel
theorem dX10_bet_52 : decode cX10_bet 52 = .ok (.dup, 1) := by decide +kernel
theorem dX10_bet_53 : decode cX10_bet 53 = .ok (.getfield 162, 3) := by decide +kernel
theorem dX10_bet_56 : decode cX10_bet 56 = .ok (.iload 4, 2) := by decide +kernel
theorem dX10_bet_58 : decode cX10_bet 58 = .ok (.ifCond .eq 7, 3) := by decide +kernel
theorem dX10_bet_61 : decode cX10_bet 61 = .ok (.iconst 1, 1) := by decide +kernel
theorem dX10_bet_62 : decode cX10_bet 62 = .ok (.goto 4, 3) := by decide +kernel
theorem dX10_bet_65 : decode cX10_bet 65 = .ok (.iconst 0, 1) := by decide +kernel
theorem dX10_bet_66 : decode cX10_bet 66 = .ok (.iadd, 1) := by decide +kernel
theorem dX10_bet_67 : decode cX10_bet 67 = .ok (.putfield 162, 3) := by decide +kernel
theorem dX10_bet_70 : decode cX10_bet 70 = .ok (.return_, 1) := by decide +kernel
set_option maxRecDepth 20000 in
theorem ggX10_happen_X10_change : GoodIn wsX10_happen wsX10_change := goodIn_r _ [8, 2, 9, 10, 11, 12, 7, 13, 14, 15, 16, 38, 39, 40, 41, 42, 43, 44, 45, 46, 47, 48, 49, 50, 51, 52, 53, 54, 55, 56, 57, 58, 59, 60, 61, 62, 63, 64, 65, 66, 67, 68, 69, 70, 71] (by decide +kernel) (by decide +kernel)
set_option maxRecDepth 20000 in
theorem gX10_happen_X10_change : GoodIn wsX10_happen (wsV RX10 165 RX10 yX10_change wsX10_change) := goodIn_app (goodIn_of _ (by decide +kernel)) ggX10_happen_X10_change
set_option maxRecDepth 20000 in
theorem ggX10_happen_X10_lift : GoodIn wsX10_happen wsX10_lift := goodIn_r _ [20, 9, 21, 22, 23, 7, 24, 1, 25, 26, 27, 28, 2, 38, 39, 40, 41, 42, 43, 44, 45, 46, 47, 48, 49, 50, 51, 52, 53, 54, 55, 56, 57, 58, 59, 60, 61, 62, 63, 64, 65, 66, 67, 68, 69, 70, 71] (by decide +kernel) (by decide +kernel)
set_option maxRecDepth 20000 in
theorem gX10_happen_X10_lift : GoodIn wsX10_happen (wsV RX10 169 RX10 yX10_lift wsX10_lift) := goodIn_app (goodIn_of _ (by decide +kernel)) ggX10_happen_X10_lift
set_option maxRecDepth 20000 in
theorem ggX10_happen_X10_bet : GoodIn wsX10_happen wsX10_bet := goodIn_r _ [32, 33, 34, 21, 22, 23, 7, 24, 1, 25, 26, 27, 28, 2, 35, 36, 37, 38, 39, 40, 41, 42, 43, 44, 45, 46, 47, 48, 49, 50, 51, 52, 53, 54, 55, 56, 57, 58, 59, 60, 61, 62, 63, 64, 65, 66, 67, 68, 69, 70, 71] (by decide +kernel) (by decide +kernel)
set_option maxRecDepth 20000 in
theorem gX10_happen_X10_bet : GoodIn wsX10_happen (wsV RX10 173 RX10 yX10_bet wsX10_bet) := goodIn_app (goodIn_of _ (by decide +kernel)) ggX10_happen_X10_bet
theorem dX10_happen_0 : decode cX10_happen 0 = .ok (.iload_n 1, 1) := by decide +kernel
theorem dX10_happen_1 : decode cX10_happen 1 = .ok (.tableswitch 86 0 3 #[31, 42, 50, 75], 31) := by decide +kernel
theorem dX10_happen_32 : decode cX10_happen 32 = .ok (.aload_n 0, 1) := by decide +kernel
theorem dX10_happen_33 : decode cX10_happen 33 = .ok (.iload_n 2, 1) := by decide +kernel
theorem dX10_happen_34 : decode cX10_happen 34 = .ok (.iload_n 3, 1) := by decide +kernel
theorem dX10_happen_35 : decode cX10_happen 35 = .ok (.iload 4, 2) := by decide +kernel
theorem dX10_happen_37 : decode cX10_happen 37 = .ok (.invokevirtual 165, 3) := by decide +kernel
theorem dX10_happen_40 : decode cX10_happen 40 = .ok (.goto 57, 3) := by decide +kernel
theorem dX10_happen_43 : decode cX10_happen 43 = .ok (.aload_n 0, 1) := by decide +kernel
theorem dX10_happen_44 : decode cX10_happen 44 = .ok (.iload_n 2, 1) := by decide +kernel
theorem dX10_happen_45 : decode cX10_happen 45 = .ok (.invokevirtual 169, 3) := by decide +kernel
theorem dX10_happen_48 : decode cX10_happen 48 = .ok (.goto 49, 3) := by decide +kernel
theorem dX10_happen_51 : decode cX10_happen 51 = .ok (.aload_n 0, 1) := by decide +kernel
theorem dX10_happen_52 : decode cX10_happen 52 = .ok (.aload_n 0, 1) := by decide +kernel
theorem dX10_happen_53 : decode cX10_happen 53 = .ok (.getfield 95, 3) := by decide +kernel
theorem dX10_happen_56 : decode cX10_happen 56 = .ok (.ifCond .ge 12, 3) := by decide +kernel
theorem dX10_happen_59 : decode cX10_happen 59 = .ok (.aload_n 0, 1) := by decide +kernel
theorem dX10_happen_60 : decode cX10_happen 60 = .ok (.getfield 7, 3) := by decide +kernel
theorem dX10_happen_63 : decode cX10_happen 63 = .ok (.iload_n 2, 1) := by decide +kernel
theorem dX10_happen_64 : decode cX10_happen 64 = .ok (.iaload, 1) := by decide +kernel
theorem dX10_happen_65 : decode cX10_happen 65 = .ok (.goto 5, 3) := by decide +kernel
theorem dX10_happen_68 : decode cX10_happen 68 = .ok (.bipush (-6), 2) := by decide +kernel
theorem dX10_happen_70 : decode cX10_happen 70 = .ok (.putfield 95, 3) := by decide +kernel
theorem dX10_happen_73 : decode cX10_happen 73 = .ok (.goto 24, 3) := by decide +kernel
theorem dX10_happen_76 : decode cX10_happen 76 = .ok (.aload_n 0, 1) := by decide +kernel
theorem dX10_happen_77 : decode cX10_happen 77 = .ok (.iload_n 2, 1) := by decide +kernel
theorem dX10_happen_78 : decode cX10_happen 78 = .ok (.iload_n 3, 1) := by decide +kernel
theorem dX10_happen_79 : decode cX10_happen 79 = .ok (.iload 4, 2) := by decide +kernel
theorem dX10_happen_81 : decode cX10_happen 81 = .ok (.invokevirtual 173, 3) := by decide +kernel
theorem dX10_happen_84 : decode cX10_happen 84 = .ok (.goto 13, 3) := by decide +kernel
theorem dX10_happen_87 : decode cX10_happen 87 = .ok (.aload_n 0, 1) := by decide +kernel
theorem dX10_happen_88 : decode cX10_happen 88 = .ok (.dup, 1) := by decide +kernel
theorem dX10_happen_89 : decode cX10_happen 89 = .ok (.getfield 145, 3) := by decide +kernel
theorem dX10_happen_92 : decode cX10_happen 92 = .ok (.iconst 1, 1) := by decide +kernel
theorem dX10_happen_93 : decode cX10_happen 93 = .ok (.iadd, 1) := by decide +kernel
theorem dX10_happen_94 : decode cX10_happen 94 = .ok (.putfield 145, 3) := by decide +kernel
theorem dX10_happen_97 : decode cX10_happen 97 = .ok (.return_, 1) := by decide +kernel

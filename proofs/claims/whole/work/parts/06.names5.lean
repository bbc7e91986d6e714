set_option maxRecDepth 20000 in
theorem ggX10_isWrong_X10_peaPlace : GoodIn wsX10_isWrong wsX10_peaPlace := goodIn_r _ [6, 7, 8, 9, 10, 5, 11, 12, 16, 17, 18, 19, 20, 21, 22, 23, 24, 25, 26, 27, 28, 29, 30, 31, 32, 33, 34, 35, 36, 37, 38, 39, 40, 41, 42, 43, 44, 45, 46, 47, 48, 49] (by decide +kernel) (by decide +kernel)
set_option maxRecDepth 20000 in
theorem gX10_isWrong_X10_peaPlace : GoodIn wsX10_isWrong (wsV RX10 156 RX10 yX10_peaPlace wsX10_peaPlace) := goodIn_app (goodIn_of _ (by decide +kernel)) ggX10_isWrong_X10_peaPlace
set_option maxRecDepth 20000 in
theorem ggX10_isWrong_X10_has : GoodIn wsX10_isWrong wsX10_has := goodIn_r _ [15] (by decide +kernel) (by decide +kernel)
set_option maxRecDepth 20000 in
theorem gX10_isWrong_X10_has : GoodIn wsX10_isWrong (va_wsS RX10 148 yX10_has wsX10_has) := goodIn_app (goodIn_of _ (by decide +kernel)) ggX10_isWrong_X10_has
theorem dX10_isWrong_0 : decode cX10_isWrong 0 = .ok (.aload_n 0, 1) := by decide +kernel
theorem dX10_isWrong_1 : decode cX10_isWrong 1 = .ok (.invokevirtual 156, 3) := by decide +kernel
theorem dX10_isWrong_4 : decode cX10_isWrong 4 = .ok (.istore_n 2, 1) := by decide +kernel
theorem dX10_isWrong_5 : decode cX10_isWrong 5 = .ok (.iload_n 2, 1) := by decide +kernel
theorem dX10_isWrong_6 : decode cX10_isWrong 6 = .ok (.ifCond .lt 16, 3) := by decide +kernel
theorem dX10_isWrong_9 : decode cX10_isWrong 9 = .ok (.aload_n 0, 1) := by decide +kernel
theorem dX10_isWrong_10 : decode cX10_isWrong 10 = .ok (.getfield 19, 3) := by decide +kernel
theorem dX10_isWrong_13 : decode cX10_isWrong 13 = .ok (.iload_n 1, 1) := by decide +kernel
theorem dX10_isWrong_14 : decode cX10_isWrong 14 = .ok (.iaload, 1) := by decide +kernel
theorem dX10_isWrong_15 : decode cX10_isWrong 15 = .ok (.iload_n 2, 1) := by decide +kernel
theorem dX10_isWrong_16 : decode cX10_isWrong 16 = .ok (.invokestatic 148, 3) := by decide +kernel
theorem dX10_isWrong_19 : decode cX10_isWrong 19 = .ok (.ifCond .ne 7, 3) := by decide +kernel
theorem dX10_isWrong_22 : decode cX10_isWrong 22 = .ok (.iconst 1, 1) := by decide +kernel
theorem dX10_isWrong_23 : decode cX10_isWrong 23 = .ok (.goto 4, 3) := by decide +kernel
theorem dX10_isWrong_26 : decode cX10_isWrong 26 = .ok (.iconst 0, 1) := by decide +kernel
theorem dX10_isWrong_27 : decode cX10_isWrong 27 = .ok (.ireturn, 1) := by decide +kernel
set_option maxRecDepth 20000 in
theorem ggX10_wrongOnes_X10_isWrong : GoodIn wsX10_wrongOnes wsX10_isWrong := goodIn_r _ [5, 6, 7, 8, 9, 4, 10, 11, 12, 13, 14, 15, 16, 17, 18, 19, 20, 21, 22, 23, 24, 25, 26, 27, 28, 29, 30, 31, 32, 33, 34, 35, 36, 37, 38, 39, 40, 41, 42, 43, 44, 45, 46, 47, 48, 49, 50, 51, 52, 53] (by decide +kernel) (by decide +kernel)
set_option maxRecDepth 20000 in
theorem gX10_wrongOnes_X10_isWrong : GoodIn wsX10_wrongOnes (wsV RX10 176 RX10 yX10_isWrong wsX10_isWrong) := goodIn_app (goodIn_of _ (by decide +kernel)) ggX10_wrongOnes_X10_isWrong
theorem dX10_wrongOnes_0 : decode cX10_wrongOnes 0 = .ok (.iconst 0, 1) := by decide +kernel
theorem dX10_wrongOnes_1 : decode cX10_wrongOnes 1 = .ok (.istore_n 1, 1) := by decide +kernel
theorem dX10_wrongOnes_2 : decode cX10_wrongOnes 2 = .ok (.iconst 0, 1) := by decide +kernel
theorem dX10_wrongOnes_3 : decode cX10_wrongOnes 3 = .ok (.istore_n 2, 1) := by decide +kernel
theorem dX10_wrongOnes_4 : decode cX10_wrongOnes 4 = .ok (.iload_n 2, 1) := by decide +kernel
theorem dX10_wrongOnes_5 : decode cX10_wrongOnes 5 = .ok (.iconst 4, 1) := by decide +kernel
theorem dX10_wrongOnes_6 : decode cX10_wrongOnes 6 = .ok (.if_icmp .ge 27, 3) := by decide +kernel
theorem dX10_wrongOnes_9 : decode cX10_wrongOnes 9 = .ok (.iload_n 1, 1) := by decide +kernel
theorem dX10_wrongOnes_10 : decode cX10_wrongOnes 10 = .ok (.aload_n 0, 1) := by decide +kernel
theorem dX10_wrongOnes_11 : decode cX10_wrongOnes 11 = .ok (.iload_n 2, 1) := by decide +kernel
theorem dX10_wrongOnes_12 : decode cX10_wrongOnes 12 = .ok (.invokevirtual 176, 3) := by decide +kernel
theorem dX10_wrongOnes_15 : decode cX10_wrongOnes 15 = .ok (.ifCond .eq 9, 3) := by decide +kernel
theorem dX10_wrongOnes_18 : decode cX10_wrongOnes 18 = .ok (.iconst 1, 1) := by decide +kernel
theorem dX10_wrongOnes_19 : decode cX10_wrongOnes 19 = .ok (.iload_n 2, 1) := by decide +kernel
theorem dX10_wrongOnes_20 : decode cX10_wrongOnes 20 = .ok (.ishl, 1) := by decide +kernel
theorem dX10_wrongOnes_21 : decode cX10_wrongOnes 21 = .ok (.goto 4, 3) := by decide +kernel
theorem dX10_wrongOnes_24 : decode cX10_wrongOnes 24 = .ok (.iconst 0, 1) := by decide +kernel
theorem dX10_wrongOnes_25 : decode cX10_wrongOnes 25 = .ok (.ior, 1) := by decide +kernel
theorem dX10_wrongOnes_26 : decode cX10_wrongOnes 26 = .ok (.istore_n 1, 1) := by decide +kernel
theorem dX10_wrongOnes_27 : decode cX10_wrongOnes 27 = .ok (.iinc 2 1, 3) := by decide +kernel
theorem dX10_wrongOnes_30 : decode cX10_wrongOnes 30 = .ok (.goto (-26), 3) := by decide +kernel
theorem dX10_wrongOnes_33 : decode cX10_wrongOnes 33 = .ok (.iload_n 1, 1) := by decide +kernel
theorem dX10_wrongOnes_34 : decode cX10_wrongOnes 34 = .ok (.ireturn, 1) := by decide +kernel
theorem dX10_keepNow_0 : decode cX10_keepNow 0 = .ok (.iconst 0, 1) := by decide +kernel
theorem dX10_keepNow_1 : decode cX10_keepNow 1 = .ok (.istore_n 1, 1) := by decide +kernel
theorem dX10_keepNow_2 : decode cX10_keepNow 2 = .ok (.iload_n 1, 1) := by decide +kernel
theorem dX10_keepNow_3 : decode cX10_keepNow 3 = .ok (.bipush 6, 2) := by decide +kernel
theorem dX10_keepNow_5 : decode cX10_keepNow 5 = .ok (.if_icmp .ge 21, 3) := by decide +kernel
theorem dX10_keepNow_8 : decode cX10_keepNow 8 = .ok (.aload_n 0, 1) := by decide +kernel
theorem dX10_keepNow_9 : decode cX10_keepNow 9 = .ok (.getfield 49, 3) := by decide +kernel
theorem dX10_keepNow_12 : decode cX10_keepNow 12 = .ok (.iload_n 1, 1) := by decide +kernel
theorem dX10_keepNow_13 : decode cX10_keepNow 13 = .ok (.aload_n 0, 1) := by decide +kernel
theorem dX10_keepNow_14 : decode cX10_keepNow 14 = .ok (.getfield 7, 3) := by decide +kernel
theorem dX10_keepNow_17 : decode cX10_keepNow 17 = .ok (.iload_n 1, 1) := by decide +kernel
theorem dX10_keepNow_18 : decode cX10_keepNow 18 = .ok (.iaload, 1) := by decide +kernel
theorem dX10_keepNow_19 : decode cX10_keepNow 19 = .ok (.iastore, 1) := by decide +kernel
theorem dX10_keepNow_20 : decode cX10_keepNow 20 = .ok (.iinc 1 1, 3) := by decide +kernel
theorem dX10_keepNow_23 : decode cX10_keepNow 23 = .ok (.goto (-21), 3) := by decide +kernel
theorem dX10_keepNow_26 : decode cX10_keepNow 26 = .ok (.iconst 0, 1) := by decide +kernel
theorem dX10_keepNow_27 : decode cX10_keepNow 27 = .ok (.istore_n 1, 1) := by decide +kernel
theorem dX10_keepNow_28 : decode cX10_keepNow 28 = .ok (.iload_n 1, 1) := by decide +kernel
theorem dX10_keepNow_29 : decode cX10_keepNow 29 = .ok (.iconst 4, 1) := by decide +kernel
theorem dX10_keepNow_30 : decode cX10_keepNow 30 = .ok (.if_icmp .ge 39, 3) := by decide +kernel
theorem dX10_keepNow_33 : decode cX10_keepNow 33 = .ok (.aload_n 0, 1) := by decide +kernel
theorem dX10_keepNow_34 : decode cX10_keepNow 34 = .ok (.getfield 49, 3) := by decide +kernel
theorem dX10_keepNow_37 : decode cX10_keepNow 37 = .ok (.bipush 6, 2) := by decide +kernel
theorem dX10_keepNow_39 : decode cX10_keepNow 39 = .ok (.iload_n 1, 1) := by decide +kernel
theorem dX10_keepNow_40 : decode cX10_keepNow 40 = .ok (.iadd, 1) := by decide +kernel
theorem dX10_keepNow_41 : decode cX10_keepNow 41 = .ok (.aload_n 0, 1) := by decide +kernel
theorem dX10_keepNow_42 : decode cX10_keepNow 42 = .ok (.getfield 16, 3) := by decide +kernel
theorem dX10_keepNow_45 : decode cX10_keepNow 45 = .ok (.iload_n 1, 1) := by decide +kernel
theorem dX10_keepNow_46 : decode cX10_keepNow 46 = .ok (.iaload, 1) := by decide +kernel
theorem dX10_keepNow_47 : decode cX10_keepNow 47 = .ok (.iastore, 1) := by decide +kernel
theorem dX10_keepNow_48 : decode cX10_keepNow 48 = .ok (.aload_n 0, 1) := by decide +kernel
theorem dX10_keepNow_49 : decode cX10_keepNow 49 = .ok (.getfield 49, 3) := by decide +kernel
theorem dX10_keepNow_52 : decode cX10_keepNow 52 = .ok (.bipush 10, 2) := by decide +kernel
theorem dX10_keepNow_54 : decode cX10_keepNow 54 = .ok (.iload_n 1, 1) := by decide +kernel
theorem dX10_keepNow_55 : decode cX10_keepNow 55 = .ok (.iadd, 1) := by decide +kernel
theorem dX10_keepNow_56 : decode cX10_keepNow 56 = .ok (.aload_n 0, 1) := by decide +kernel
theorem dX10_keepNow_57 : decode cX10_keepNow 57 = .ok (.getfield 19, 3) := by decide +kernel
theorem dX10_keepNow_60 : decode cX10_keepNow 60 = .ok (.iload_n 1, 1) := by decide +kernel
theorem dX10_keepNow_61 : decode cX10_keepNow 61 = .ok (.iaload, 1) := by decide +kernel
theorem dX10_keepNow_62 : decode cX10_keepNow 62 = .ok (.iastore, 1) := by decide +kernel
theorem dX10_keepNow_63 : decode cX10_keepNow 63 = .ok (.iinc 1 1, 3) := by decide +kernel
theorem dX10_keepNow_66 : decode cX10_keepNow 66 = .ok (.goto (-38), 3) := by decide +kernel
theorem dX10_keepNow_69 : decode cX10_keepNow 69 = .ok (.aload_n 0, 1) := by decide +kernel
theorem dX10_keepNow_70 : decode cX10_keepNow 70 = .ok (.getfield 49, 3) := by decide +kernel
theorem dX10_keepNow_73 : decode cX10_keepNow 73 = .ok (.bipush 14, 2) := by decide +kernel
theorem dX10_keepNow_75 : decode cX10_keepNow 75 = .ok (.aload_n 0, 1) := by decide +kernel
theorem dX10_keepNow_76 : decode cX10_keepNow 76 = .ok (.getfield 95, 3) := by decide +kernel
theorem dX10_keepNow_79 : decode cX10_keepNow 79 = .ok (.iastore, 1) := by decide +kernel
theorem dX10_keepNow_80 : decode cX10_keepNow 80 = .ok (.aload_n 0, 1) := by decide +kernel
theorem dX10_keepNow_81 : decode cX10_keepNow 81 = .ok (.getfield 49, 3) := by decide +kernel
theorem dX10_keepNow_84 : decode cX10_keepNow 84 = .ok (.bipush 15, 2) := by decide +kernel
theorem dX10_keepNow_86 : decode cX10_keepNow 86 = .ok (.aload_n 0, 1) := by decide +kernel
theorem dX10_keepNow_87 : decode cX10_keepNow 87 = .ok (.getfield 145, 3) := by decide +kernel
theorem dX10_keepNow_90 : decode cX10_keepNow 90 = .ok (.iastore, 1) := by decide +kernel
theorem dX10_keepNow_91 : decode cX10_keepNow 91 = .ok (.return_, 1) := by decide +kernel
theorem dX10_back_0 : decode cX10_back 0 = .ok (.iconst 0, 1) := by decide +kernel
theorem dX10_back_1 : decode cX10_back 1 = .ok (.istore_n 2, 1) := by decide +kernel
theorem dX10_back_2 : decode cX10_back 2 = .ok (.iload_n 2, 1) := by decide +kernel
theorem dX10_back_3 : decode cX10_back 3 = .ok (.bipush 6, 2) := by decide +kernel
theorem dX10_back_5 : decode cX10_back 5 = .ok (.if_icmp .ge 21, 3) := by decide +kernel
theorem dX10_back_8 : decode cX10_back 8 = .ok (.aload_n 0, 1) := by decide +kernel
theorem dX10_back_9 : decode cX10_back 9 = .ok (.getfield 7, 3) := by decide +kernel
theorem dX10_back_12 : decode cX10_back 12 = .ok (.iload_n 2, 1) := by decide +kernel
theorem dX10_back_13 : decode cX10_back 13 = .ok (.aload_n 0, 1) := by decide +kernel
theorem dX10_back_14 : decode cX10_back 14 = .ok (.getfield 49, 3) := by decide +kernel
theorem dX10_back_17 : decode cX10_back 17 = .ok (.iload_n 2, 1) := by decide +kernel
theorem dX10_back_18 : decode cX10_back 18 = .ok (.iaload, 1) := by decide +kernel
theorem dX10_back_19 : decode cX10_back 19 = .ok (.iastore, 1) := by decide +kernel
theorem dX10_back_20 : decode cX10_back 20 = .ok (.iinc 2 1, 3) := by decide +kernel
theorem dX10_back_23 : decode cX10_back 23 = .ok (.goto (-21), 3) := by decide +kernel
theorem dX10_back_26 : decode cX10_back 26 = .ok (.iconst 0, 1) := by decide +kernel
theorem dX10_back_27 : decode cX10_back 27 = .ok (.istore_n 2, 1) := by decide +kernel
theorem dX10_back_28 : decode cX10_back 28 = .ok (.iload_n 2, 1) := by decide +kernel
theorem dX10_back_29 : decode cX10_back 29 = .ok (.iconst 4, 1) := by decide +kernel
theorem dX10_back_30 : decode cX10_back 30 = .ok (.if_icmp .ge 39, 3) := by decide +kernel
theorem dX10_back_33 : decode cX10_back 33 = .ok (.aload_n 0, 1) := by decide +kernel
theorem dX10_back_34 : decode cX10_back 34 = .ok (.getfield 16, 3) := by decide +kernel
theorem dX10_back_37 : decode cX10_back 37 = .ok (.iload_n 2, 1) := by decide +kernel
theorem dX10_back_38 : decode cX10_back 38 = .ok (.aload_n 0, 1) := by decide +kernel
theorem dX10_back_39 : decode cX10_back 39 = .ok (.getfield 49, 3) := by decide +kernel
theorem dX10_back_42 : decode cX10_back 42 = .ok (.bipush 6, 2) := by decide +kernel
theorem dX10_back_44 : decode cX10_back 44 = .ok (.iload_n 2, 1) := by decide +kernel
theorem dX10_back_45 : decode cX10_back 45 = .ok (.iadd, 1) := by decide +kernel
theorem dX10_back_46 : decode cX10_back 46 = .ok (.iaload, 1) := by decide +kernel
theorem dX10_back_47 : decode cX10_back 47 = .ok (.iastore, 1) := by decide +kernel
theorem dX10_back_48 : decode cX10_back 48 = .ok (.aload_n 0, 1) := by decide +kernel
theorem dX10_back_49 : decode cX10_back 49 = .ok (.getfield 19, 3) := by decide +kernel
theorem dX10_back_52 : decode cX10_back 52 = .ok (.iload_n 2, 1) := by decide +kernel
theorem dX10_back_53 : decode cX10_back 53 = .ok (.aload_n 0, 1) := by decide +kernel
theorem dX10_back_54 : decode cX10_back 54 = .ok (.getfield 49, 3) := by decide +kernel
theorem dX10_back_57 : decode cX10_back 57 = .ok (.bipush 10, 2) := by decide +kernel
theorem dX10_back_59 : decode cX10_back 59 = .ok (.iload_n 2, 1) := by decide +kernel
theorem dX10_back_60 : decode cX10_back 60 = .ok (.iadd, 1) := by decide +kernel
theorem dX10_back_61 : decode cX10_back 61 = .ok (.iaload, 1) := by decide +kernel
theorem dX10_back_62 : decode cX10_back 62 = .ok (.iastore, 1) := by decide +kernel
theorem dX10_back_63 : decode cX10_back 63 = .ok (.iinc 2 1, 3) := by decide +kernel
theorem dX10_back_66 : decode cX10_back 66 = .ok (.goto (-38), 3) := by decide +kernel
theorem dX10_back_69 : decode cX10_back 69 = .ok (.aload_n 0, 1) := by decide +kernel
theorem dX10_back_70 : decode cX10_back 70 = .ok (.aload_n 0, 1) := by decide +kernel
theorem dX10_back_71 : decode cX10_back 71 = .ok (.getfield 49, 3) := by decide +kernel
theorem dX10_back_74 : decode cX10_back 74 = .ok (.bipush 14, 2) := by decide +kernel
theorem dX10_back_76 : decode cX10_back 76 = .ok (.iaload, 1) := by decide +kernel
theorem dX10_back_77 : decode cX10_back 77 = .ok (.putfield 95, 3) := by decide +kernel
theorem dX10_back_80 : decode cX10_back 80 = .ok (.aload_n 0, 1) := by decide +kernel
theorem dX10_back_81 : decode cX10_back 81 = .ok (.aload_n 0, 1) := by decide +kernel
theorem dX10_back_82 : decode cX10_back 82 = .ok (.getfield 49, 3) := by decide +kernel
theorem dX10_back_85 : decode cX10_back 85 = .ok (.bipush 15, 2) := by decide +kernel
theorem dX10_back_87 : decode cX10_back 87 = .ok (.iaload, 1) := by decide +kernel
theorem dX10_back_88 : decode cX10_back 88 = .ok (.putfield 145, 3) := by decide +kernel
theorem dX10_back_91 : decode cX10_back 91 = .ok (.iload_n 1, 1) := by decide +kernel
theorem dX10_back_92 : decode cX10_back 92 = .ok (.ireturn, 1) := by decide +kernel
set_option maxRecDepth 20000 in
theorem ggX10_leastOf_X10_has : GoodIn wsX10_leastOf wsX10_has := goodIn_r _ [4] (by decide +kernel) (by decide +kernel)
set_option maxRecDepth 20000 in
theorem gX10_leastOf_X10_has : GoodIn wsX10_leastOf (va_wsS RX10 148 yX10_has wsX10_has) := goodIn_app (goodIn_of _ (by decide +kernel)) ggX10_leastOf_X10_has
theorem dX10_leastOf_0 : decode cX10_leastOf 0 = .ok (.iconst 0, 1) := by decide +kernel
theorem dX10_leastOf_1 : decode cX10_leastOf 1 = .ok (.istore_n 1, 1) := by decide +kernel
theorem dX10_leastOf_2 : decode cX10_leastOf 2 = .ok (.iload_n 0, 1) := by decide +kernel
theorem dX10_leastOf_3 : decode cX10_leastOf 3 = .ok (.iload_n 1, 1) := by decide +kernel
theorem dX10_leastOf_4 : decode cX10_leastOf 4 = .ok (.invokestatic 148, 3) := by decide +kernel
theorem dX10_leastOf_7 : decode cX10_leastOf 7 = .ok (.ifCond .ne 9, 3) := by decide +kernel
theorem dX10_leastOf_10 : decode cX10_leastOf 10 = .ok (.iinc 1 1, 3) := by decide +kernel
theorem dX10_leastOf_13 : decode cX10_leastOf 13 = .ok (.goto (-11), 3) := by decide +kernel
theorem dX10_leastOf_16 : decode cX10_leastOf 16 = .ok (.iload_n 1, 1) := by decide +kernel
theorem dX10_leastOf_17 : decode cX10_leastOf 17 = .ok (.ireturn, 1) := by decide +kernel
set_option maxRecDepth 20000 in
theorem ggX10_goOne_X10_wrongOnes : GoodIn wsX10_goOne wsX10_wrongOnes := goodIn_r _ [11, 12, 13, 14, 10, 15, 16, 17, 18, 19, 20, 21, 22, 23, 24, 25, 26, 27, 28, 29, 59, 60, 61, 62, 63, 64, 65, 66, 67, 68, 69, 70, 71, 72, 73, 74, 75, 76, 77, 78, 79, 80, 81, 82, 83, 84, 85, 86, 87, 88, 89, 90, 91, 92] (by decide +kernel) (by decide +kernel)
set_option maxRecDepth 20000 in
theorem gX10_goOne_X10_wrongOnes : GoodIn wsX10_goOne (wsV RX10 179 RX10 yX10_wrongOnes wsX10_wrongOnes) := goodIn_app (goodIn_of _ (by decide +kernel)) ggX10_goOne_X10_wrongOnes
set_option maxRecDepth 20000 in
theorem ggX10_goOne_X10_happen : GoodIn wsX10_goOne wsX10_happen := goodIn_r _ [33, 21, 26, 34, 35, 36, 37, 10, 38, 16, 39, 40, 41, 42, 27, 28, 29, 43, 44, 45, 46, 17, 18, 19, 20, 22, 23, 24, 25, 47, 48, 49, 50, 51, 52, 53, 54, 55, 59, 60, 61, 62, 63, 64, 65, 66, 67, 68, 69, 70, 71, 72, 73, 74, 75, 76, 77, 78, 79, 80, 81, 82, 83, 84, 85, 86, 87, 88, 89, 90, 91, 92] (by decide +kernel) (by decide +kernel)
set_option maxRecDepth 20000 in
theorem gX10_goOne_X10_happen : GoodIn wsX10_goOne (wsV RX10 182 RX10 yX10_happen wsX10_happen) := goodIn_app (goodIn_of _ (by decide +kernel)) ggX10_goOne_X10_happen
set_option maxRecDepth 20000 in
theorem ggX10_goOne_X10_leastOf : GoodIn wsX10_goOne wsX10_leastOf := goodIn_r _ [58, 27, 28, 10, 29] (by decide +kernel) (by decide +kernel)
set_option maxRecDepth 20000 in
theorem gX10_goOne_X10_leastOf : GoodIn wsX10_goOne (va_wsS RX10 189 yX10_leastOf wsX10_leastOf) := goodIn_app (goodIn_of _ (by decide +kernel)) ggX10_goOne_X10_leastOf
theorem dX10_goOne_0 : decode cX10_goOne 0 = .ok (.aload_n 0, 1) := by decide +kernel
theorem dX10_goOne_1 : decode cX10_goOne 1 = .ok (.invokevirtual 179, 3) := by decide +kernel
theorem dX10_goOne_4 : decode cX10_goOne 4 = .ok (.istore_n 2, 1) := by decide +kernel
theorem dX10_goOne_5 : decode cX10_goOne 5 = .ok (.aload_n 0, 1) := by decide +kernel
theorem dX10_goOne_6 : decode cX10_goOne 6 = .ok (.aload_n 0, 1) := by decide +kernel
theorem dX10_goOne_7 : decode cX10_goOne 7 = .ok (.getfield 37, 3) := by decide +kernel
theorem dX10_goOne_10 : decode cX10_goOne 10 = .ok (.iload_n 1, 1) := by decide +kernel
theorem dX10_goOne_11 : decode cX10_goOne 11 = .ok (.iaload, 1) := by decide +kernel
theorem dX10_goOne_12 : decode cX10_goOne 12 = .ok (.aload_n 0, 1) := by decide +kernel
theorem dX10_goOne_13 : decode cX10_goOne 13 = .ok (.getfield 40, 3) := by decide +kernel
theorem dX10_goOne_16 : decode cX10_goOne 16 = .ok (.iload_n 1, 1) := by decide +kernel
theorem dX10_goOne_17 : decode cX10_goOne 17 = .ok (.iaload, 1) := by decide +kernel
theorem dX10_goOne_18 : decode cX10_goOne 18 = .ok (.aload_n 0, 1) := by decide +kernel
theorem dX10_goOne_19 : decode cX10_goOne 19 = .ok (.getfield 43, 3) := by decide +kernel
theorem dX10_goOne_22 : decode cX10_goOne 22 = .ok (.iload_n 1, 1) := by decide +kernel
theorem dX10_goOne_23 : decode cX10_goOne 23 = .ok (.iaload, 1) := by decide +kernel
theorem dX10_goOne_24 : decode cX10_goOne 24 = .ok (.aload_n 0, 1) := by decide +kernel
theorem dX10_goOne_25 : decode cX10_goOne 25 = .ok (.getfield 46, 3) := by decide +kernel
theorem dX10_goOne_28 : decode cX10_goOne 28 = .ok (.iload_n 1, 1) := by decide +kernel
theorem dX10_goOne_29 : decode cX10_goOne 29 = .ok (.iaload, 1) := by decide +kernel
theorem dX10_goOne_30 : decode cX10_goOne 30 = .ok (.invokevirtual 182, 3) := by decide +kernel
theorem dX10_goOne_33 : decode cX10_goOne 33 = .ok (.aload_n 0, 1) := by decide +kernel
theorem dX10_goOne_34 : decode cX10_goOne 34 = .ok (.invokevirtual 179, 3) := by decide +kernel
theorem dX10_goOne_37 : decode cX10_goOne 37 = .ok (.iload_n 2, 1) := by decide +kernel
theorem dX10_goOne_38 : decode cX10_goOne 38 = .ok (.iconst (-1), 1) := by decide +kernel
theorem dX10_goOne_39 : decode cX10_goOne 39 = .ok (.ixor, 1) := by decide +kernel
theorem dX10_goOne_40 : decode cX10_goOne 40 = .ok (.iand, 1) := by decide +kernel
theorem dX10_goOne_41 : decode cX10_goOne 41 = .ok (.istore_n 3, 1) := by decide +kernel
theorem dX10_goOne_42 : decode cX10_goOne 42 = .ok (.iload_n 3, 1) := by decide +kernel
theorem dX10_goOne_43 : decode cX10_goOne 43 = .ok (.ifCond .eq 23, 3) := by decide +kernel
theorem dX10_goOne_46 : decode cX10_goOne 46 = .ok (.aload_n 0, 1) := by decide +kernel
theorem dX10_goOne_47 : decode cX10_goOne 47 = .ok (.getfield 186, 3) := by decide +kernel
theorem dX10_goOne_50 : decode cX10_goOne 50 = .ok (.ifCond .ge 16, 3) := by decide +kernel
theorem dX10_goOne_53 : decode cX10_goOne 53 = .ok (.aload_n 0, 1) := by decide +kernel
theorem dX10_goOne_54 : decode cX10_goOne 54 = .ok (.iload_n 1, 1) := by decide +kernel
theorem dX10_goOne_55 : decode cX10_goOne 55 = .ok (.putfield 186, 3) := by decide +kernel
theorem dX10_goOne_58 : decode cX10_goOne 58 = .ok (.aload_n 0, 1) := by decide +kernel
theorem dX10_goOne_59 : decode cX10_goOne 59 = .ok (.iload_n 3, 1) := by decide +kernel
theorem dX10_goOne_60 : decode cX10_goOne 60 = .ok (.invokestatic 189, 3) := by decide +kernel
theorem dX10_goOne_63 : decode cX10_goOne 63 = .ok (.putfield 192, 3) := by decide +kernel
theorem dX10_goOne_66 : decode cX10_goOne 66 = .ok (.return_, 1) := by decide +kernel
set_option maxRecDepth 20000 in
theorem ggX10_goRounds_X10_whyNot : GoodIn wsX10_goRounds wsX10_whyNot := goodIn_r _ [15, 16, 17, 18, 19, 70, 71, 72, 73, 74, 75, 76, 77, 78, 79, 80, 81, 82, 83, 84, 85, 86, 87, 88, 89, 90, 91, 92, 93, 94, 95, 96, 97, 98, 99, 100, 101, 102, 103] (by decide +kernel) (by decide +kernel)
set_option maxRecDepth 20000 in
theorem gX10_goRounds_X10_whyNot : GoodIn wsX10_goRounds (wsV RX10 201 RX10 yX10_whyNot wsX10_whyNot) := goodIn_app (goodIn_of _ (by decide +kernel)) ggX10_goRounds_X10_whyNot
set_option maxRecDepth 20000 in
theorem ggX10_goRounds_X10_goOne : GoodIn wsX10_goRounds wsX10_goOne := goodIn_r _ [23, 7, 8, 9, 10, 3, 4, 24, 25, 26, 14, 27, 28, 29, 30, 31, 32, 33, 34, 35, 36, 16, 37, 38, 39, 40, 17, 41, 42, 43, 44, 45, 46, 47, 19, 48, 49, 50, 51, 52, 53, 54, 55, 56, 57, 58, 59, 60, 61, 62, 63, 18, 5, 64, 65, 66, 67, 68, 69, 70, 71, 72, 73, 74, 75, 76, 77, 78, 79, 80, 81, 82, 83, 84, 85, 86, 87, 88, 89, 90, 91, 92, 93, 94, 95, 96, 97, 98, 99, 100, 101, 102, 103] (by decide +kernel) (by decide +kernel)
set_option maxRecDepth 20000 in
theorem gX10_goRounds_X10_goOne : GoodIn wsX10_goRounds (wsV RX10 205 RX10 yX10_goOne wsX10_goOne) := goodIn_app (goodIn_of _ (by decide +kernel)) ggX10_goRounds_X10_goOne
theorem dX10_goRounds_0 : decode cX10_goRounds 0 = .ok (.aload_n 0, 1) := by decide +kernel
theorem dX10_goRounds_1 : decode cX10_goRounds 1 = .ok (.bipush (-6), 2) := by decide +kernel
theorem dX10_goRounds_3 : decode cX10_goRounds 3 = .ok (.putfield 195, 3) := by decide +kernel
theorem dX10_goRounds_6 : decode cX10_goRounds 6 = .ok (.aload_n 0, 1) := by decide +kernel
theorem dX10_goRounds_7 : decode cX10_goRounds 7 = .ok (.bipush (-6), 2) := by decide +kernel
theorem dX10_goRounds_9 : decode cX10_goRounds 9 = .ok (.putfield 198, 3) := by decide +kernel
theorem dX10_goRounds_12 : decode cX10_goRounds 12 = .ok (.aload_n 0, 1) := by decide +kernel
theorem dX10_goRounds_13 : decode cX10_goRounds 13 = .ok (.bipush (-6), 2) := by decide +kernel
theorem dX10_goRounds_15 : decode cX10_goRounds 15 = .ok (.putfield 186, 3) := by decide +kernel
theorem dX10_goRounds_18 : decode cX10_goRounds 18 = .ok (.aload_n 0, 1) := by decide +kernel
theorem dX10_goRounds_19 : decode cX10_goRounds 19 = .ok (.bipush (-6), 2) := by decide +kernel
theorem dX10_goRounds_21 : decode cX10_goRounds 21 = .ok (.putfield 192, 3) := by decide +kernel
theorem dX10_goRounds_24 : decode cX10_goRounds 24 = .ok (.aload_n 0, 1) := by decide +kernel
theorem dX10_goRounds_25 : decode cX10_goRounds 25 = .ok (.iconst 0, 1) := by decide +kernel
theorem dX10_goRounds_26 : decode cX10_goRounds 26 = .ok (.putfield 162, 3) := by decide +kernel
theorem dX10_goRounds_29 : decode cX10_goRounds 29 = .ok (.iconst 0, 1) := by decide +kernel
theorem dX10_goRounds_30 : decode cX10_goRounds 30 = .ok (.istore_n 1, 1) := by decide +kernel
theorem dX10_goRounds_31 : decode cX10_goRounds 31 = .ok (.iload_n 1, 1) := by decide +kernel
theorem dX10_goRounds_32 : decode cX10_goRounds 32 = .ok (.aload_n 0, 1) := by decide +kernel
theorem dX10_goRounds_33 : decode cX10_goRounds 33 = .ok (.getfield 119, 3) := by decide +kernel
theorem dX10_goRounds_36 : decode cX10_goRounds 36 = .ok (.if_icmp .ge 82, 3) := by decide +kernel
theorem dX10_goRounds_39 : decode cX10_goRounds 39 = .ok (.aload_n 0, 1) := by decide +kernel
theorem dX10_goRounds_40 : decode cX10_goRounds 40 = .ok (.getfield 195, 3) := by decide +kernel
theorem dX10_goRounds_43 : decode cX10_goRounds 43 = .ok (.ifCond .ge 75, 3) := by decide +kernel
theorem dX10_goRounds_46 : decode cX10_goRounds 46 = .ok (.aload_n 0, 1) := by decide +kernel
theorem dX10_goRounds_47 : decode cX10_goRounds 47 = .ok (.aload_n 0, 1) := by decide +kernel
theorem dX10_goRounds_48 : decode cX10_goRounds 48 = .ok (.getfield 37, 3) := by decide +kernel
theorem dX10_goRounds_51 : decode cX10_goRounds 51 = .ok (.iload_n 1, 1) := by decide +kernel
theorem dX10_goRounds_52 : decode cX10_goRounds 52 = .ok (.iaload, 1) := by decide +kernel
theorem dX10_goRounds_53 : decode cX10_goRounds 53 = .ok (.aload_n 0, 1) := by decide +kernel
theorem dX10_goRounds_54 : decode cX10_goRounds 54 = .ok (.getfield 40, 3) := by decide +kernel
theorem dX10_goRounds_57 : decode cX10_goRounds 57 = .ok (.iload_n 1, 1) := by decide +kernel
theorem dX10_goRounds_58 : decode cX10_goRounds 58 = .ok (.iaload, 1) := by decide +kernel
theorem dX10_goRounds_59 : decode cX10_goRounds 59 = .ok (.aload_n 0, 1) := by decide +kernel
theorem dX10_goRounds_60 : decode cX10_goRounds 60 = .ok (.getfield 43, 3) := by decide +kernel
theorem dX10_goRounds_63 : decode cX10_goRounds 63 = .ok (.iload_n 1, 1) := by decide +kernel
theorem dX10_goRounds_64 : decode cX10_goRounds 64 = .ok (.iaload, 1) := by decide +kernel
theorem dX10_goRounds_65 : decode cX10_goRounds 65 = .ok (.aload_n 0, 1) := by decide +kernel
theorem dX10_goRounds_66 : decode cX10_goRounds 66 = .ok (.getfield 46, 3) := by decide +kernel
theorem dX10_goRounds_69 : decode cX10_goRounds 69 = .ok (.iload_n 1, 1) := by decide +kernel
theorem dX10_goRounds_70 : decode cX10_goRounds 70 = .ok (.iaload, 1) := by decide +kernel
theorem dX10_goRounds_71 : decode cX10_goRounds 71 = .ok (.invokevirtual 201, 3) := by decide +kernel
theorem dX10_goRounds_74 : decode cX10_goRounds 74 = .ok (.istore_n 2, 1) := by decide +kernel
theorem dX10_goRounds_75 : decode cX10_goRounds 75 = .ok (.aload_n 0, 1) := by decide +kernel
theorem dX10_goRounds_76 : decode cX10_goRounds 76 = .ok (.iload_n 2, 1) := by decide +kernel
theorem dX10_goRounds_77 : decode cX10_goRounds 77 = .ok (.ifCond .le 7, 3) := by decide +kernel
theorem dX10_goRounds_80 : decode cX10_goRounds 80 = .ok (.iload_n 1, 1) := by decide +kernel
theorem dX10_goRounds_81 : decode cX10_goRounds 81 = .ok (.goto 5, 3) := by decide +kernel
theorem dX10_goRounds_84 : decode cX10_goRounds 84 = .ok (.bipush (-6), 2) := by decide +kernel
theorem dX10_goRounds_86 : decode cX10_goRounds 86 = .ok (.putfield 195, 3) := by decide +kernel
theorem dX10_goRounds_89 : decode cX10_goRounds 89 = .ok (.aload_n 0, 1) := by decide +kernel
theorem dX10_goRounds_90 : decode cX10_goRounds 90 = .ok (.iload_n 2, 1) := by decide +kernel
theorem dX10_goRounds_91 : decode cX10_goRounds 91 = .ok (.ifCond .le 7, 3) := by decide +kernel
theorem dX10_goRounds_94 : decode cX10_goRounds 94 = .ok (.iload_n 2, 1) := by decide +kernel
theorem dX10_goRounds_95 : decode cX10_goRounds 95 = .ok (.goto 5, 3) := by decide +kernel
theorem dX10_goRounds_98 : decode cX10_goRounds 98 = .ok (.bipush (-6), 2) := by decide +kernel
theorem dX10_goRounds_100 : decode cX10_goRounds 100 = .ok (.putfield 198, 3) := by decide +kernel
theorem dX10_goRounds_103 : decode cX10_goRounds 103 = .ok (.iload_n 2, 1) := by decide +kernel
theorem dX10_goRounds_104 : decode cX10_goRounds 104 = .ok (.ifCond .ne 8, 3) := by decide +kernel
theorem dX10_goRounds_107 : decode cX10_goRounds 107 = .ok (.aload_n 0, 1) := by decide +kernel
theorem dX10_goRounds_108 : decode cX10_goRounds 108 = .ok (.iload_n 1, 1) := by decide +kernel
theorem dX10_goRounds_109 : decode cX10_goRounds 109 = .ok (.invokevirtual 205, 3) := by decide +kernel
theorem dX10_goRounds_112 : decode cX10_goRounds 112 = .ok (.iinc 1 1, 3) := by decide +kernel
theorem dX10_goRounds_115 : decode cX10_goRounds 115 = .ok (.goto (-84), 3) := by decide +kernel
theorem dX10_goRounds_118 : decode cX10_goRounds 118 = .ok (.return_, 1) := by decide +kernel
set_option maxRecDepth 20000 in
theorem ggX10_refusal_X10_keepNow : GoodIn wsX10_refusal wsX10_keepNow := goodIn_r _ [6, 7, 8, 9, 10, 11, 12, 115, 116, 117, 118, 119, 120, 121, 122, 123, 124, 125, 126, 127, 128, 129, 130, 131, 132, 133, 134, 135, 136, 137, 138, 139, 140, 141, 142, 143, 144, 145, 146, 147, 148] (by decide +kernel) (by decide +kernel)
set_option maxRecDepth 20000 in
theorem gX10_refusal_X10_keepNow : GoodIn wsX10_refusal (wsV RX10 208 RX10 yX10_keepNow wsX10_keepNow) := goodIn_app (goodIn_of _ (by decide +kernel)) ggX10_refusal_X10_keepNow
set_option maxRecDepth 20000 in
theorem ggX10_refusal_X10_fault : GoodIn wsX10_refusal wsX10_fault := goodIn_r _ [16, 17, 18, 19, 20, 21, 22, 5, 23, 24, 25, 26, 27, 28, 29, 30, 31, 32, 33, 34, 35, 36, 37, 38, 39, 40, 41, 42, 43, 44, 45, 46, 47, 48, 49, 50, 51, 52, 53, 115, 116, 117, 118, 119, 120, 121, 122, 123, 124, 125, 126, 127, 128, 129, 130, 131, 132, 133, 134, 135, 136, 137, 138, 139, 140, 141, 142, 143, 144, 145, 146, 147, 148] (by decide +kernel) (by decide +kernel)
set_option maxRecDepth 20000 in
theorem gX10_refusal_X10_fault : GoodIn wsX10_refusal (wsV RX10 211 RX10 yX10_fault wsX10_fault) := goodIn_app (goodIn_of _ (by decide +kernel)) ggX10_refusal_X10_fault
set_option maxRecDepth 20000 in
theorem ggX10_refusal_X10_goRounds : GoodIn wsX10_refusal wsX10_goRounds := goodIn_r _ [57, 1, 58, 59, 60, 61, 17, 40, 28, 31, 32, 62, 63, 64, 5, 65, 11, 8, 9, 12, 66, 67, 68, 69, 70, 71, 72, 73, 74, 75, 76, 77, 10, 78, 79, 80, 81, 82, 83, 84, 85, 86, 87, 88, 89, 90, 91, 92, 93, 94, 95, 96, 97, 98, 99, 100, 101, 102, 103, 104, 105, 106, 107, 108, 109, 110, 111, 112, 113, 114, 115, 116, 117, 118, 119, 120, 121, 122, 123, 124, 125, 126, 127, 128, 129, 130, 131, 132, 133, 134, 135, 136, 137, 138, 139, 140, 141, 142, 143, 144, 145, 146, 147, 148] (by decide +kernel) (by decide +kernel)
set_option maxRecDepth 20000 in
theorem gX10_refusal_X10_goRounds : GoodIn wsX10_refusal (wsV RX10 214 RX10 yX10_goRounds wsX10_goRounds) := goodIn_app (goodIn_of _ (by decide +kernel)) ggX10_refusal_X10_goRounds
theorem dX10_refusal_0 : decode cX10_refusal 0 = .ok (.aload_n 0, 1) := by decide +kernel
theorem dX10_refusal_1 : decode cX10_refusal 1 = .ok (.invokevirtual 208, 3) := by decide +kernel
theorem dX10_refusal_4 : decode cX10_refusal 4 = .ok (.aload_n 0, 1) := by decide +kernel
theorem dX10_refusal_5 : decode cX10_refusal 5 = .ok (.invokevirtual 211, 3) := by decide +kernel
theorem dX10_refusal_8 : decode cX10_refusal 8 = .ok (.ifCond .lt 6, 3) := by decide +kernel
theorem dX10_refusal_11 : decode cX10_refusal 11 = .ok (.bipush (-5), 2) := by decide +kernel
theorem dX10_refusal_13 : decode cX10_refusal 13 = .ok (.ireturn, 1) := by decide +kernel
theorem dX10_refusal_14 : decode cX10_refusal 14 = .ok (.aload_n 0, 1) := by decide +kernel
theorem dX10_refusal_15 : decode cX10_refusal 15 = .ok (.invokevirtual 214, 3) := by decide +kernel
theorem dX10_refusal_18 : decode cX10_refusal 18 = .ok (.aload_n 0, 1) := by decide +kernel
theorem dX10_refusal_19 : decode cX10_refusal 19 = .ok (.getfield 195, 3) := by decide +kernel
theorem dX10_refusal_22 : decode cX10_refusal 22 = .ok (.ifCond .lt 8, 3) := by decide +kernel
theorem dX10_refusal_25 : decode cX10_refusal 25 = .ok (.bipush (-3), 2) := by decide +kernel
theorem dX10_refusal_27 : decode cX10_refusal 27 = .ok (.goto 5, 3) := by decide +kernel
theorem dX10_refusal_30 : decode cX10_refusal 30 = .ok (.bipush (-6), 2) := by decide +kernel
theorem dX10_refusal_32 : decode cX10_refusal 32 = .ok (.ireturn, 1) := by decide +kernel
set_option maxRecDepth 20000 in
theorem ggX10_judge_X10_in : GoodIn wsX10_judge wsX10_in := goodIn_r _ [8] (by decide +kernel) (by decide +kernel)
set_option maxRecDepth 20000 in
theorem gX10_judge_X10_in : GoodIn wsX10_judge (va_wsS RX10 79 yX10_in wsX10_in) := goodIn_app (goodIn_of _ (by decide +kernel)) ggX10_judge_X10_in
set_option maxRecDepth 20000 in
theorem ggX10_judge_X10_refusal : GoodIn wsX10_judge wsX10_refusal := goodIn_r _ [12, 2, 13, 14, 15, 7, 16, 17, 18, 19, 20, 21, 22, 23, 24, 25, 26, 27, 28, 29, 30, 31, 32, 33, 34, 35, 36, 37, 38, 39, 40, 41, 42, 5, 6, 8, 43, 44, 45, 46, 47, 48, 49, 50, 51, 52, 53, 54, 55, 56, 57, 58, 59, 60, 61, 62, 63, 64, 3, 65, 66, 4, 67, 68, 69, 70, 71, 72, 73, 74, 75, 76, 77, 78, 79, 80, 81, 82, 83, 84, 85, 86, 87, 88, 89, 90, 91, 92, 93, 94, 95, 96, 97, 98, 99, 100, 101, 102, 103, 104, 105, 106, 107, 108, 109, 110, 111, 112, 113, 114, 115, 116, 117, 118, 119, 124, 125, 126, 127, 128, 129, 130, 131, 132, 133, 134, 135, 136, 137, 138, 139, 140, 141, 142, 143, 144, 145, 146, 147, 148, 149, 150, 151, 152, 153, 154, 155, 156, 157] (by decide +kernel) (by decide +kernel)
set_option maxRecDepth 20000 in
theorem gX10_judge_X10_refusal : GoodIn wsX10_judge (wsV RX10 219 RX10 yX10_refusal wsX10_refusal) := goodIn_app (goodIn_of _ (by decide +kernel)) ggX10_judge_X10_refusal
set_option maxRecDepth 20000 in
theorem ggX10_judge_X10_back : GoodIn wsX10_judge wsX10_back := goodIn_r _ [123, 18, 17, 19, 20, 21, 22, 124, 125, 126, 127, 128, 129, 130, 131, 132, 133, 134, 135, 136, 137, 138, 139, 140, 141, 142, 143, 144, 145, 146, 147, 148, 149, 150, 151, 152, 153, 154, 155, 156, 157] (by decide +kernel) (by decide +kernel)
set_option maxRecDepth 20000 in
theorem gX10_judge_X10_back : GoodIn wsX10_judge (wsV RX10 222 RX10 yX10_back wsX10_back) := goodIn_app (goodIn_of _ (by decide +kernel)) ggX10_judge_X10_back
theorem dX10_judge_0 : decode cX10_judge 0 = .ok (.iload_n 1, 1) := by decide +kernel
theorem dX10_judge_1 : decode cX10_judge 1 = .ok (.i2l, 1) := by decide +kernel
theorem dX10_judge_2 : decode cX10_judge 2 = .ok (.lconst 0, 1) := by decide +kernel
theorem dX10_judge_3 : decode cX10_judge 3 = .ok (.ldc2_w 217, 3) := by decide +kernel
theorem dX10_judge_6 : decode cX10_judge 6 = .ok (.invokestatic 79, 3) := by decide +kernel
theorem dX10_judge_9 : decode cX10_judge 9 = .ok (.ifCond .ne 6, 3) := by decide +kernel
theorem dX10_judge_12 : decode cX10_judge 12 = .ok (.bipush (-2), 2) := by decide +kernel
theorem dX10_judge_14 : decode cX10_judge 14 = .ok (.ireturn, 1) := by decide +kernel
theorem dX10_judge_15 : decode cX10_judge 15 = .ok (.aload_n 0, 1) := by decide +kernel
theorem dX10_judge_16 : decode cX10_judge 16 = .ok (.aload_n 0, 1) := by decide +kernel
theorem dX10_judge_17 : decode cX10_judge 17 = .ok (.invokevirtual 219, 3) := by decide +kernel
theorem dX10_judge_20 : decode cX10_judge 20 = .ok (.invokevirtual 222, 3) := by decide +kernel
theorem dX10_judge_23 : decode cX10_judge 23 = .ok (.istore_n 2, 1) := by decide +kernel
theorem dX10_judge_24 : decode cX10_judge 24 = .ok (.iload_n 2, 1) := by decide +kernel
theorem dX10_judge_25 : decode cX10_judge 25 = .ok (.bipush (-5), 2) := by decide +kernel
theorem dX10_judge_27 : decode cX10_judge 27 = .ok (.if_icmp .eq 14, 3) := by decide +kernel
theorem dX10_judge_30 : decode cX10_judge 30 = .ok (.iload_n 1, 1) := by decide +kernel
theorem dX10_judge_31 : decode cX10_judge 31 = .ok (.iconst 1, 1) := by decide +kernel
theorem dX10_judge_32 : decode cX10_judge 32 = .ok (.if_icmp .le 11, 3) := by decide +kernel
theorem dX10_judge_35 : decode cX10_judge 35 = .ok (.iload_n 2, 1) := by decide +kernel
theorem dX10_judge_36 : decode cX10_judge 36 = .ok (.bipush (-3), 2) := by decide +kernel
theorem dX10_judge_38 : decode cX10_judge 38 = .ok (.if_icmp .ne 5, 3) := by decide +kernel
theorem dX10_judge_41 : decode cX10_judge 41 = .ok (.iload_n 2, 1) := by decide +kernel
theorem dX10_judge_42 : decode cX10_judge 42 = .ok (.ireturn, 1) := by decide +kernel
theorem dX10_judge_43 : decode cX10_judge 43 = .ok (.iload_n 1, 1) := by decide +kernel
theorem dX10_judge_44 : decode cX10_judge 44 = .ok (.ifCond .ne 10, 3) := by decide +kernel
theorem dX10_judge_47 : decode cX10_judge 47 = .ok (.aload_n 0, 1) := by decide +kernel
theorem dX10_judge_48 : decode cX10_judge 48 = .ok (.getfield 195, 3) := by decide +kernel
theorem dX10_judge_51 : decode cX10_judge 51 = .ok (.goto 19, 3) := by decide +kernel
theorem dX10_judge_54 : decode cX10_judge 54 = .ok (.iload_n 1, 1) := by decide +kernel
theorem dX10_judge_55 : decode cX10_judge 55 = .ok (.iconst 1, 1) := by decide +kernel
theorem dX10_judge_56 : decode cX10_judge 56 = .ok (.if_icmp .ne 10, 3) := by decide +kernel
theorem dX10_judge_59 : decode cX10_judge 59 = .ok (.aload_n 0, 1) := by decide +kernel
theorem dX10_judge_60 : decode cX10_judge 60 = .ok (.getfield 198, 3) := by decide +kernel
theorem dX10_judge_63 : decode cX10_judge 63 = .ok (.goto 7, 3) := by decide +kernel
theorem dX10_judge_66 : decode cX10_judge 66 = .ok (.aload_n 0, 1) := by decide +kernel
theorem dX10_judge_67 : decode cX10_judge 67 = .ok (.getfield 162, 3) := by decide +kernel
theorem dX10_judge_70 : decode cX10_judge 70 = .ok (.ireturn, 1) := by decide +kernel
set_option maxRecDepth 20000 in
theorem ggX10_behind_X10_isWatcher : GoodIn wsX10_behind wsX10_isWatcher := goodIn_r _ [7, 8, 9, 10, 6, 11] (by decide +kernel) (by decide +kernel)
set_option maxRecDepth 20000 in
theorem gX10_behind_X10_isWatcher : GoodIn wsX10_behind (va_wsS RX10 99 yX10_isWatcher wsX10_isWatcher) := goodIn_app (goodIn_of _ (by decide +kernel)) ggX10_behind_X10_isWatcher
set_option maxRecDepth 20000 in
theorem ggX10_behind_X10_in : GoodIn wsX10_behind wsX10_in := goodIn_r _ [11] (by decide +kernel) (by decide +kernel)
set_option maxRecDepth 20000 in
theorem gX10_behind_X10_in : GoodIn wsX10_behind (va_wsS RX10 79 yX10_in wsX10_in) := goodIn_app (goodIn_of _ (by decide +kernel)) ggX10_behind_X10_in
set_option maxRecDepth 20000 in
theorem ggX10_behind_X10_refusal : GoodIn wsX10_behind wsX10_refusal := goodIn_r _ [15, 16, 17, 18, 19, 6, 20, 21, 22, 3, 2, 23, 24, 25, 26, 27, 28, 29, 30, 31, 32, 33, 34, 35, 36, 37, 38, 39, 40, 41, 42, 43, 44, 9, 10, 11, 45, 46, 47, 48, 49, 50, 51, 52, 53, 54, 55, 56, 57, 58, 59, 60, 61, 62, 63, 64, 65, 66, 67, 68, 69, 70, 71, 72, 73, 74, 75, 76, 77, 78, 79, 80, 81, 82, 83, 84, 85, 86, 87, 88, 89, 90, 91, 92, 93, 94, 95, 96, 97, 98, 99, 100, 101, 102, 103, 104, 105, 106, 107, 108, 109, 110, 111, 112, 113, 114, 115, 116, 117, 118, 119, 120, 121, 122, 123, 128, 129, 130, 131, 132, 133, 134, 135, 136, 137, 138, 139, 140, 141, 142, 143, 144, 145, 146, 147, 148, 149, 150, 151, 152, 153, 154, 155, 156, 157, 158, 159, 160, 161] (by decide +kernel) (by decide +kernel)
set_option maxRecDepth 20000 in
theorem gX10_behind_X10_refusal : GoodIn wsX10_behind (wsV RX10 219 RX10 yX10_refusal wsX10_refusal) := goodIn_app (goodIn_of _ (by decide +kernel)) ggX10_behind_X10_refusal
set_option maxRecDepth 20000 in
theorem ggX10_behind_X10_isWrong : GoodIn wsX10_behind wsX10_isWrong := goodIn_r _ [86, 2, 87, 88, 89, 6, 90, 23, 91, 92, 93, 94, 22, 95, 96, 97, 128, 129, 130, 131, 132, 133, 134, 135, 136, 137, 138, 139, 140, 141, 142, 143, 144, 145, 146, 147, 148, 149, 150, 151, 152, 153, 154, 155, 156, 157, 158, 159, 160, 161] (by decide +kernel) (by decide +kernel)
set_option maxRecDepth 20000 in
theorem gX10_behind_X10_isWrong : GoodIn wsX10_behind (wsV RX10 176 RX10 yX10_isWrong wsX10_isWrong) := goodIn_app (goodIn_of _ (by decide +kernel)) ggX10_behind_X10_isWrong
set_option maxRecDepth 20000 in
theorem ggX10_behind_X10_back : GoodIn wsX10_behind wsX10_back := goodIn_r _ [127, 22, 21, 3, 2, 23, 24, 128, 129, 130, 131, 132, 133, 134, 135, 136, 137, 138, 139, 140, 141, 142, 143, 144, 145, 146, 147, 148, 149, 150, 151, 152, 153, 154, 155, 156, 157, 158, 159, 160, 161] (by decide +kernel) (by decide +kernel)
set_option maxRecDepth 20000 in
theorem gX10_behind_X10_back : GoodIn wsX10_behind (wsV RX10 222 RX10 yX10_back wsX10_back) := goodIn_app (goodIn_of _ (by decide +kernel)) ggX10_behind_X10_back
theorem dX10_behind_0 : decode cX10_behind 0 = .ok (.iload_n 1, 1) := by decide +kernel
theorem dX10_behind_1 : decode cX10_behind 1 = .ok (.invokestatic 99, 3) := by decide +kernel
theorem dX10_behind_4 : decode cX10_behind 4 = .ok (.ifCond .ne 5, 3) := by decide +kernel
theorem dX10_behind_7 : decode cX10_behind 7 = .ok (.iconst (-1), 1) := by decide +kernel
theorem dX10_behind_8 : decode cX10_behind 8 = .ok (.ireturn, 1) := by decide +kernel
theorem dX10_behind_9 : decode cX10_behind 9 = .ok (.iload_n 2, 1) := by decide +kernel
theorem dX10_behind_10 : decode cX10_behind 10 = .ok (.i2l, 1) := by decide +kernel
theorem dX10_behind_11 : decode cX10_behind 11 = .ok (.lconst 0, 1) := by decide +kernel
theorem dX10_behind_12 : decode cX10_behind 12 = .ok (.ldc2_w 217, 3) := by decide +kernel
theorem dX10_behind_15 : decode cX10_behind 15 = .ok (.invokestatic 79, 3) := by decide +kernel
theorem dX10_behind_18 : decode cX10_behind 18 = .ok (.ifCond .ne 6, 3) := by decide +kernel
theorem dX10_behind_21 : decode cX10_behind 21 = .ok (.bipush (-2), 2) := by decide +kernel
theorem dX10_behind_23 : decode cX10_behind 23 = .ok (.ireturn, 1) := by decide +kernel
theorem dX10_behind_24 : decode cX10_behind 24 = .ok (.aload_n 0, 1) := by decide +kernel
theorem dX10_behind_25 : decode cX10_behind 25 = .ok (.invokevirtual 219, 3) := by decide +kernel
theorem dX10_behind_28 : decode cX10_behind 28 = .ok (.istore_n 3, 1) := by decide +kernel
theorem dX10_behind_29 : decode cX10_behind 29 = .ok (.aload_n 0, 1) := by decide +kernel
theorem dX10_behind_30 : decode cX10_behind 30 = .ok (.iload_n 3, 1) := by decide +kernel
theorem dX10_behind_31 : decode cX10_behind 31 = .ok (.bipush (-6), 2) := by decide +kernel
theorem dX10_behind_33 : decode cX10_behind 33 = .ok (.if_icmp .eq 7, 3) := by decide +kernel
theorem dX10_behind_36 : decode cX10_behind 36 = .ok (.iload_n 3, 1) := by decide +kernel
theorem dX10_behind_37 : decode cX10_behind 37 = .ok (.goto 43, 3) := by decide +kernel
theorem dX10_behind_40 : decode cX10_behind 40 = .ok (.iload_n 2, 1) := by decide +kernel
theorem dX10_behind_41 : decode cX10_behind 41 = .ok (.ifCond .ne 12, 3) := by decide +kernel
theorem dX10_behind_44 : decode cX10_behind 44 = .ok (.aload_n 0, 1) := by decide +kernel
theorem dX10_behind_45 : decode cX10_behind 45 = .ok (.getfield 19, 3) := by decide +kernel
theorem dX10_behind_48 : decode cX10_behind 48 = .ok (.iload_n 1, 1) := by decide +kernel
theorem dX10_behind_49 : decode cX10_behind 49 = .ok (.iaload, 1) := by decide +kernel
theorem dX10_behind_50 : decode cX10_behind 50 = .ok (.goto 30, 3) := by decide +kernel
theorem dX10_behind_53 : decode cX10_behind 53 = .ok (.iload_n 2, 1) := by decide +kernel
theorem dX10_behind_54 : decode cX10_behind 54 = .ok (.iconst 1, 1) := by decide +kernel
theorem dX10_behind_55 : decode cX10_behind 55 = .ok (.if_icmp .ne 12, 3) := by decide +kernel
theorem dX10_behind_58 : decode cX10_behind 58 = .ok (.aload_n 0, 1) := by decide +kernel
theorem dX10_behind_59 : decode cX10_behind 59 = .ok (.getfield 16, 3) := by decide +kernel
theorem dX10_behind_62 : decode cX10_behind 62 = .ok (.iload_n 1, 1) := by decide +kernel
theorem dX10_behind_63 : decode cX10_behind 63 = .ok (.iaload, 1) := by decide +kernel
theorem dX10_behind_64 : decode cX10_behind 64 = .ok (.goto 16, 3) := by decide +kernel
theorem dX10_behind_67 : decode cX10_behind 67 = .ok (.aload_n 0, 1) := by decide +kernel
theorem dX10_behind_68 : decode cX10_behind 68 = .ok (.iload_n 1, 1) := by decide +kernel
theorem dX10_behind_69 : decode cX10_behind 69 = .ok (.invokevirtual 176, 3) := by decide +kernel
theorem dX10_behind_72 : decode cX10_behind 72 = .ok (.ifCond .eq 7, 3) := by decide +kernel
theorem dX10_behind_75 : decode cX10_behind 75 = .ok (.iconst 1, 1) := by decide +kernel
theorem dX10_behind_76 : decode cX10_behind 76 = .ok (.goto 4, 3) := by decide +kernel
theorem dX10_behind_79 : decode cX10_behind 79 = .ok (.iconst 0, 1) := by decide +kernel
theorem dX10_behind_80 : decode cX10_behind 80 = .ok (.invokevirtual 222, 3) := by decide +kernel
theorem dX10_behind_83 : decode cX10_behind 83 = .ok (.ireturn, 1) := by decide +kernel
set_option maxRecDepth 20000 in
theorem ggX10_table_X10_isPlace : GoodIn wsX10_table wsX10_isPlace := goodIn_r _ [5, 6, 7, 8, 4, 9] (by decide +kernel) (by decide +kernel)
set_option maxRecDepth 20000 in
theorem gX10_table_X10_isPlace : GoodIn wsX10_table (va_wsS RX10 129 yX10_isPlace wsX10_isPlace) := goodIn_app (goodIn_of _ (by decide +kernel)) ggX10_table_X10_isPlace
set_option maxRecDepth 20000 in
theorem ggX10_table_X10_refusal : GoodIn wsX10_table wsX10_refusal := goodIn_r _ [13, 14, 15, 16, 17, 4, 18, 19, 1, 20, 21, 22, 23, 24, 25, 26, 27, 28, 29, 30, 31, 32, 33, 34, 35, 36, 37, 38, 39, 40, 41, 42, 43, 7, 8, 9, 44, 45, 46, 47, 48, 49, 50, 51, 52, 53, 54, 55, 56, 57, 2, 3, 5, 6, 58, 59, 60, 61, 62, 63, 64, 65, 66, 67, 68, 69, 70, 71, 72, 73, 74, 75, 76, 77, 78, 79, 80, 81, 82, 83, 84, 85, 86, 87, 88, 89, 90, 91, 92, 93, 94, 95, 96, 97, 98, 99, 100, 101, 102, 103, 104, 105, 106, 107, 108, 109, 110, 111, 112, 113, 114, 115, 116, 117, 118, 123, 124, 125, 126, 127, 128, 129, 130, 131, 132, 133, 134, 135, 136, 137, 138, 139, 140, 141, 142, 143, 144, 145, 146, 147, 148, 149, 150, 151, 152, 153, 154, 155, 156] (by decide +kernel) (by decide +kernel)
set_option maxRecDepth 20000 in
theorem gX10_table_X10_refusal : GoodIn wsX10_table (wsV RX10 219 RX10 yX10_refusal wsX10_refusal) := goodIn_app (goodIn_of _ (by decide +kernel)) ggX10_table_X10_refusal
set_option maxRecDepth 20000 in
theorem ggX10_table_X10_back : GoodIn wsX10_table wsX10_back := goodIn_r _ [122, 1, 19, 20, 21, 22, 23, 123, 124, 125, 126, 127, 128, 129, 130, 131, 132, 133, 134, 135, 136, 137, 138, 139, 140, 141, 142, 143, 144, 145, 146, 147, 148, 149, 150, 151, 152, 153, 154, 155, 156] (by decide +kernel) (by decide +kernel)
set_option maxRecDepth 20000 in
theorem gX10_table_X10_back : GoodIn wsX10_table (wsV RX10 222 RX10 yX10_back wsX10_back) := goodIn_app (goodIn_of _ (by decide +kernel)) ggX10_table_X10_back
theorem dX10_table_0 : decode cX10_table 0 = .ok (.iload_n 1, 1) := by decide +kernel
theorem dX10_table_1 : decode cX10_table 1 = .ok (.invokestatic 129, 3) := by decide +kernel
theorem dX10_table_4 : decode cX10_table 4 = .ok (.ifCond .ne 5, 3) := by decide +kernel
theorem dX10_table_7 : decode cX10_table 7 = .ok (.iconst (-1), 1) := by decide +kernel
theorem dX10_table_8 : decode cX10_table 8 = .ok (.ireturn, 1) := by decide +kernel
theorem dX10_table_9 : decode cX10_table 9 = .ok (.aload_n 0, 1) := by decide +kernel
theorem dX10_table_10 : decode cX10_table 10 = .ok (.invokevirtual 219, 3) := by decide +kernel
theorem dX10_table_13 : decode cX10_table 13 = .ok (.istore_n 2, 1) := by decide +kernel
theorem dX10_table_14 : decode cX10_table 14 = .ok (.aload_n 0, 1) := by decide +kernel
theorem dX10_table_15 : decode cX10_table 15 = .ok (.iload_n 2, 1) := by decide +kernel
theorem dX10_table_16 : decode cX10_table 16 = .ok (.bipush (-6), 2) := by decide +kernel
theorem dX10_table_18 : decode cX10_table 18 = .ok (.if_icmp .eq 7, 3) := by decide +kernel
theorem dX10_table_21 : decode cX10_table 21 = .ok (.iload_n 2, 1) := by decide +kernel
theorem dX10_table_22 : decode cX10_table 22 = .ok (.goto 9, 3) := by decide +kernel
theorem dX10_table_25 : decode cX10_table 25 = .ok (.aload_n 0, 1) := by decide +kernel
theorem dX10_table_26 : decode cX10_table 26 = .ok (.getfield 7, 3) := by decide +kernel
theorem dX10_table_29 : decode cX10_table 29 = .ok (.iload_n 1, 1) := by decide +kernel
theorem dX10_table_30 : decode cX10_table 30 = .ok (.iaload, 1) := by decide +kernel
theorem dX10_table_31 : decode cX10_table 31 = .ok (.invokevirtual 222, 3) := by decide +kernel
theorem dX10_table_34 : decode cX10_table 34 = .ok (.ireturn, 1) := by decide +kernel
set_option maxRecDepth 20000 in
theorem ggX10_pea_X10_in : GoodIn wsX10_pea wsX10_in := goodIn_r _ [5] (by decide +kernel) (by decide +kernel)
set_option maxRecDepth 20000 in
theorem gX10_pea_X10_in : GoodIn wsX10_pea (va_wsS RX10 79 yX10_in wsX10_in) := goodIn_app (goodIn_of _ (by decide +kernel)) ggX10_pea_X10_in
set_option maxRecDepth 20000 in
theorem ggX10_pea_X10_refusal : GoodIn wsX10_pea wsX10_refusal := goodIn_r _ [9, 10, 11, 12, 13, 4, 14, 15, 16, 17, 18, 1, 19, 20, 21, 22, 23, 24, 25, 26, 27, 28, 29, 30, 31, 32, 33, 34, 35, 36, 37, 38, 39, 2, 3, 5, 40, 41, 42, 43, 44, 45, 46, 47, 48, 49, 50, 51, 52, 53, 54, 55, 56, 57, 58, 59, 60, 61, 62, 63, 64, 65, 66, 67, 68, 69, 70, 71, 72, 73, 74, 75, 76, 77, 78, 79, 80, 81, 82, 83, 84, 85, 86, 87, 88, 89, 90, 91, 92, 93, 94, 95, 96, 97, 98, 99, 100, 101, 102, 103, 104, 105, 106, 107, 108, 109, 110, 111, 112, 113, 114, 115, 116, 117, 118, 123, 124, 125, 126, 127, 128, 129, 130, 131, 132, 133, 134, 135, 136, 137, 138, 139, 140, 141, 142, 143, 144, 145, 146, 147, 148, 149, 150, 151, 152, 153, 154, 155, 156] (by decide +kernel) (by decide +kernel)
set_option maxRecDepth 20000 in
theorem gX10_pea_X10_refusal : GoodIn wsX10_pea (wsV RX10 219 RX10 yX10_refusal wsX10_refusal) := goodIn_app (goodIn_of _ (by decide +kernel)) ggX10_pea_X10_refusal
set_option maxRecDepth 20000 in
theorem ggX10_pea_X10_peaPlace : GoodIn wsX10_pea wsX10_peaPlace := goodIn_r _ [85, 1, 86, 87, 88, 4, 89, 16, 123, 124, 125, 126, 127, 128, 129, 130, 131, 132, 133, 134, 135, 136, 137, 138, 139, 140, 141, 142, 143, 144, 145, 146, 147, 148, 149, 150, 151, 152, 153, 154, 155, 156] (by decide +kernel) (by decide +kernel)
set_option maxRecDepth 20000 in
theorem gX10_pea_X10_peaPlace : GoodIn wsX10_pea (wsV RX10 156 RX10 yX10_peaPlace wsX10_peaPlace) := goodIn_app (goodIn_of _ (by decide +kernel)) ggX10_pea_X10_peaPlace
set_option maxRecDepth 20000 in
theorem ggX10_pea_X10_back : GoodIn wsX10_pea wsX10_back := goodIn_r _ [122, 16, 15, 17, 18, 1, 19, 123, 124, 125, 126, 127, 128, 129, 130, 131, 132, 133, 134, 135, 136, 137, 138, 139, 140, 141, 142, 143, 144, 145, 146, 147, 148, 149, 150, 151, 152, 153, 154, 155, 156] (by decide +kernel) (by decide +kernel)
set_option maxRecDepth 20000 in
theorem gX10_pea_X10_back : GoodIn wsX10_pea (wsV RX10 222 RX10 yX10_back wsX10_back) := goodIn_app (goodIn_of _ (by decide +kernel)) ggX10_pea_X10_back
theorem dX10_pea_0 : decode cX10_pea 0 = .ok (.iload_n 1, 1) := by decide +kernel
theorem dX10_pea_1 : decode cX10_pea 1 = .ok (.i2l, 1) := by decide +kernel
theorem dX10_pea_2 : decode cX10_pea 2 = .ok (.lconst 0, 1) := by decide +kernel
theorem dX10_pea_3 : decode cX10_pea 3 = .ok (.lconst 1, 1) := by decide +kernel
theorem dX10_pea_4 : decode cX10_pea 4 = .ok (.invokestatic 79, 3) := by decide +kernel
theorem dX10_pea_7 : decode cX10_pea 7 = .ok (.ifCond .ne 6, 3) := by decide +kernel
theorem dX10_pea_10 : decode cX10_pea 10 = .ok (.bipush (-2), 2) := by decide +kernel
theorem dX10_pea_12 : decode cX10_pea 12 = .ok (.ireturn, 1) := by decide +kernel
theorem dX10_pea_13 : decode cX10_pea 13 = .ok (.aload_n 0, 1) := by decide +kernel
theorem dX10_pea_14 : decode cX10_pea 14 = .ok (.invokevirtual 219, 3) := by decide +kernel
theorem dX10_pea_17 : decode cX10_pea 17 = .ok (.istore_n 2, 1) := by decide +kernel
theorem dX10_pea_18 : decode cX10_pea 18 = .ok (.aload_n 0, 1) := by decide +kernel
theorem dX10_pea_19 : decode cX10_pea 19 = .ok (.iload_n 2, 1) := by decide +kernel
theorem dX10_pea_20 : decode cX10_pea 20 = .ok (.bipush (-6), 2) := by decide +kernel
theorem dX10_pea_22 : decode cX10_pea 22 = .ok (.if_icmp .eq 7, 3) := by decide +kernel
theorem dX10_pea_25 : decode cX10_pea 25 = .ok (.iload_n 2, 1) := by decide +kernel
theorem dX10_pea_26 : decode cX10_pea 26 = .ok (.goto 18, 3) := by decide +kernel
theorem dX10_pea_29 : decode cX10_pea 29 = .ok (.iload_n 1, 1) := by decide +kernel
theorem dX10_pea_30 : decode cX10_pea 30 = .ok (.ifCond .ne 10, 3) := by decide +kernel
theorem dX10_pea_33 : decode cX10_pea 33 = .ok (.aload_n 0, 1) := by decide +kernel
theorem dX10_pea_34 : decode cX10_pea 34 = .ok (.invokevirtual 156, 3) := by decide +kernel
theorem dX10_pea_37 : decode cX10_pea 37 = .ok (.goto 7, 3) := by decide +kernel
theorem dX10_pea_40 : decode cX10_pea 40 = .ok (.aload_n 0, 1) := by decide +kernel
theorem dX10_pea_41 : decode cX10_pea 41 = .ok (.getfield 95, 3) := by decide +kernel
theorem dX10_pea_44 : decode cX10_pea 44 = .ok (.invokevirtual 222, 3) := by decide +kernel
theorem dX10_pea_47 : decode cX10_pea 47 = .ok (.ireturn, 1) := by decide +kernel
set_option maxRecDepth 20000 in
theorem ggX10_first_X10_in : GoodIn wsX10_first wsX10_in := goodIn_r _ [8] (by decide +kernel) (by decide +kernel)
set_option maxRecDepth 20000 in
theorem gX10_first_X10_in : GoodIn wsX10_first (va_wsS RX10 79 yX10_in wsX10_in) := goodIn_app (goodIn_of _ (by decide +kernel)) ggX10_first_X10_in
set_option maxRecDepth 20000 in
theorem ggX10_first_X10_refusal : GoodIn wsX10_first wsX10_refusal := goodIn_r _ [12, 13, 14, 15, 16, 7, 17, 18, 19, 20, 21, 22, 4, 23, 24, 25, 26, 27, 28, 29, 30, 31, 32, 33, 34, 35, 36, 37, 38, 39, 40, 41, 42, 5, 6, 8, 43, 44, 45, 46, 47, 48, 49, 50, 51, 52, 53, 54, 55, 56, 57, 58, 59, 60, 61, 62, 63, 64, 65, 2, 3, 66, 67, 68, 69, 70, 71, 72, 73, 74, 75, 76, 77, 78, 79, 80, 81, 82, 83, 84, 85, 86, 87, 88, 89, 90, 91, 92, 93, 94, 95, 96, 97, 98, 99, 100, 101, 102, 103, 104, 105, 106, 107, 108, 109, 110, 111, 112, 113, 114, 115, 116, 117, 118, 119, 124, 125, 126, 127, 128, 129, 130, 131, 132, 133, 134, 135, 136, 137, 138, 139, 140, 141, 142, 143, 144, 145, 146, 147, 148, 149, 150, 151, 152, 153, 154, 155, 156, 157] (by decide +kernel) (by decide +kernel)
set_option maxRecDepth 20000 in
theorem gX10_first_X10_refusal : GoodIn wsX10_first (wsV RX10 219 RX10 yX10_refusal wsX10_refusal) := goodIn_app (goodIn_of _ (by decide +kernel)) ggX10_first_X10_refusal
set_option maxRecDepth 20000 in
theorem ggX10_first_X10_back : GoodIn wsX10_first wsX10_back := goodIn_r _ [123, 19, 18, 20, 21, 22, 4, 124, 125, 126, 127, 128, 129, 130, 131, 132, 133, 134, 135, 136, 137, 138, 139, 140, 141, 142, 143, 144, 145, 146, 147, 148, 149, 150, 151, 152, 153, 154, 155, 156, 157] (by decide +kernel) (by decide +kernel)
set_option maxRecDepth 20000 in
theorem gX10_first_X10_back : GoodIn wsX10_first (wsV RX10 222 RX10 yX10_back wsX10_back) := goodIn_app (goodIn_of _ (by decide +kernel)) ggX10_first_X10_back
theorem dX10_first_0 : decode cX10_first 0 = .ok (.iload_n 1, 1) := by decide +kernel
theorem dX10_first_1 : decode cX10_first 1 = .ok (.i2l, 1) := by decide +kernel
theorem dX10_first_2 : decode cX10_first 2 = .ok (.lconst 0, 1) := by decide +kernel
theorem dX10_first_3 : decode cX10_first 3 = .ok (.ldc2_w 217, 3) := by decide +kernel
theorem dX10_first_6 : decode cX10_first 6 = .ok (.invokestatic 79, 3) := by decide +kernel
theorem dX10_first_9 : decode cX10_first 9 = .ok (.ifCond .ne 6, 3) := by decide +kernel
theorem dX10_first_12 : decode cX10_first 12 = .ok (.bipush (-2), 2) := by decide +kernel
theorem dX10_first_14 : decode cX10_first 14 = .ok (.ireturn, 1) := by decide +kernel
theorem dX10_first_15 : decode cX10_first 15 = .ok (.aload_n 0, 1) := by decide +kernel
theorem dX10_first_16 : decode cX10_first 16 = .ok (.invokevirtual 219, 3) := by decide +kernel
theorem dX10_first_19 : decode cX10_first 19 = .ok (.istore_n 2, 1) := by decide +kernel
theorem dX10_first_20 : decode cX10_first 20 = .ok (.aload_n 0, 1) := by decide +kernel
theorem dX10_first_21 : decode cX10_first 21 = .ok (.iload_n 2, 1) := by decide +kernel
theorem dX10_first_22 : decode cX10_first 22 = .ok (.bipush (-6), 2) := by decide +kernel
theorem dX10_first_24 : decode cX10_first 24 = .ok (.if_icmp .eq 7, 3) := by decide +kernel
theorem dX10_first_27 : decode cX10_first 27 = .ok (.iload_n 2, 1) := by decide +kernel
theorem dX10_first_28 : decode cX10_first 28 = .ok (.goto 30, 3) := by decide +kernel
theorem dX10_first_31 : decode cX10_first 31 = .ok (.iload_n 1, 1) := by decide +kernel
theorem dX10_first_32 : decode cX10_first 32 = .ok (.ifCond .ne 10, 3) := by decide +kernel
theorem dX10_first_35 : decode cX10_first 35 = .ok (.aload_n 0, 1) := by decide +kernel
theorem dX10_first_36 : decode cX10_first 36 = .ok (.getfield 186, 3) := by decide +kernel
theorem dX10_first_39 : decode cX10_first 39 = .ok (.goto 19, 3) := by decide +kernel
theorem dX10_first_42 : decode cX10_first 42 = .ok (.iload_n 1, 1) := by decide +kernel
theorem dX10_first_43 : decode cX10_first 43 = .ok (.iconst 1, 1) := by decide +kernel
theorem dX10_first_44 : decode cX10_first 44 = .ok (.if_icmp .ne 10, 3) := by decide +kernel
theorem dX10_first_47 : decode cX10_first 47 = .ok (.aload_n 0, 1) := by decide +kernel
theorem dX10_first_48 : decode cX10_first 48 = .ok (.getfield 192, 3) := by decide +kernel
theorem dX10_first_51 : decode cX10_first 51 = .ok (.goto 7, 3) := by decide +kernel
theorem dX10_first_54 : decode cX10_first 54 = .ok (.aload_n 0, 1) := by decide +kernel
theorem dX10_first_55 : decode cX10_first 55 = .ok (.getfield 145, 3) := by decide +kernel
theorem dX10_first_58 : decode cX10_first 58 = .ok (.invokevirtual 222, 3) := by decide +kernel
theorem dX10_first_61 : decode cX10_first 61 = .ok (.ireturn, 1) := by decide +kernel
set_option maxRecDepth 20000 in
theorem ggX10_done_X10_refusal : GoodIn wsX10_done wsX10_refusal := goodIn_r _ [7, 8, 9, 10, 11, 6, 12, 13, 14, 15, 16, 17, 18, 19, 20, 21, 22, 2, 1, 23, 24, 25, 26, 27, 28, 29, 30, 31, 32, 33, 34, 35, 36, 37, 38, 39, 40, 41, 42, 43, 44, 45, 46, 47, 48, 49, 50, 51, 52, 53, 54, 55, 56, 57, 58, 59, 60, 61, 62, 63, 64, 65, 66, 67, 68, 69, 70, 71, 72, 73, 74, 75, 76, 77, 78, 79, 80, 81, 82, 83, 84, 85, 86, 87, 88, 89, 90, 91, 92, 93, 94, 95, 96, 97, 98, 99, 100, 101, 102, 103, 104, 105, 106, 107, 108, 109, 110, 111, 112, 113, 114, 115, 116, 117, 118, 123, 124, 125, 126, 127, 128, 129, 130, 131, 132, 133, 134, 135, 136, 137, 138, 139, 140, 141, 142, 143, 144, 145, 146, 147, 148, 149, 150, 151, 152, 153, 154, 155, 156] (by decide +kernel) (by decide +kernel)
set_option maxRecDepth 20000 in
theorem gX10_done_X10_refusal : GoodIn wsX10_done (wsV RX10 219 RX10 yX10_refusal wsX10_refusal) := goodIn_app (goodIn_of _ (by decide +kernel)) ggX10_done_X10_refusal
set_option maxRecDepth 20000 in
theorem ggX10_done_X10_back : GoodIn wsX10_done wsX10_back := goodIn_r _ [122, 14, 13, 15, 16, 17, 18, 123, 124, 125, 126, 127, 128, 129, 130, 131, 132, 133, 134, 135, 136, 137, 138, 139, 140, 141, 142, 143, 144, 145, 146, 147, 148, 149, 150, 151, 152, 153, 154, 155, 156] (by decide +kernel) (by decide +kernel)
set_option maxRecDepth 20000 in
theorem gX10_done_X10_back : GoodIn wsX10_done (wsV RX10 222 RX10 yX10_back wsX10_back) := goodIn_app (goodIn_of _ (by decide +kernel)) ggX10_done_X10_back
theorem dX10_done_0 : decode cX10_done 0 = .ok (.aload_n 0, 1) := by decide +kernel
theorem dX10_done_1 : decode cX10_done 1 = .ok (.invokevirtual 219, 3) := by decide +kernel
theorem dX10_done_4 : decode cX10_done 4 = .ok (.istore_n 1, 1) := by decide +kernel
theorem dX10_done_5 : decode cX10_done 5 = .ok (.iload_n 1, 1) := by decide +kernel
theorem dX10_done_6 : decode cX10_done 6 = .ok (.bipush (-6), 2) := by decide +kernel
theorem dX10_done_8 : decode cX10_done 8 = .ok (.if_icmp .eq 9, 3) := by decide +kernel
theorem dX10_done_11 : decode cX10_done 11 = .ok (.aload_n 0, 1) := by decide +kernel
theorem dX10_done_12 : decode cX10_done 12 = .ok (.iload_n 1, 1) := by decide +kernel
theorem dX10_done_13 : decode cX10_done 13 = .ok (.invokevirtual 222, 3) := by decide +kernel
theorem dX10_done_16 : decode cX10_done 16 = .ok (.ireturn, 1) := by decide +kernel
theorem dX10_done_17 : decode cX10_done 17 = .ok (.aload_n 0, 1) := by decide +kernel
theorem dX10_done_18 : decode cX10_done 18 = .ok (.iconst 0, 1) := by decide +kernel
theorem dX10_done_19 : decode cX10_done 19 = .ok (.putfield 116, 3) := by decide +kernel
theorem dX10_done_22 : decode cX10_done 22 = .ok (.aload_n 0, 1) := by decide +kernel
theorem dX10_done_23 : decode cX10_done 23 = .ok (.getfield 119, 3) := by decide +kernel
theorem dX10_done_26 : decode cX10_done 26 = .ok (.ireturn, 1) := by decide +kernel
theorem dX10_findGoals_0 : decode cX10_findGoals 0 = .ok (.iconst 0, 1) := by decide +kernel
theorem dX10_findGoals_1 : decode cX10_findGoals 1 = .ok (.istore_n 1, 1) := by decide +kernel
theorem dX10_findGoals_2 : decode cX10_findGoals 2 = .ok (.iload_n 1, 1) := by decide +kernel
theorem dX10_findGoals_3 : decode cX10_findGoals 3 = .ok (.bipush 6, 2) := by decide +kernel
theorem dX10_findGoals_5 : decode cX10_findGoals 5 = .ok (.if_icmp .ge 54, 3) := by decide +kernel
theorem dX10_findGoals_8 : decode cX10_findGoals 8 = .ok (.iconst 0, 1) := by decide +kernel
theorem dX10_findGoals_9 : decode cX10_findGoals 9 = .ok (.istore_n 2, 1) := by decide +kernel
theorem dX10_findGoals_10 : decode cX10_findGoals 10 = .ok (.iload_n 2, 1) := by decide +kernel
theorem dX10_findGoals_11 : decode cX10_findGoals 11 = .ok (.bipush 6, 2) := by decide +kernel
theorem dX10_findGoals_13 : decode cX10_findGoals 13 = .ok (.if_icmp .ge 40, 3) := by decide +kernel
theorem dX10_findGoals_16 : decode cX10_findGoals 16 = .ok (.aload_n 0, 1) := by decide +kernel
theorem dX10_findGoals_17 : decode cX10_findGoals 17 = .ok (.getfield 52, 3) := by decide +kernel
theorem dX10_findGoals_20 : decode cX10_findGoals 20 = .ok (.iload_n 1, 1) := by decide +kernel
theorem dX10_findGoals_21 : decode cX10_findGoals 21 = .ok (.aload_n 0, 1) := by decide +kernel
theorem dX10_findGoals_22 : decode cX10_findGoals 22 = .ok (.getfield 31, 3) := by decide +kernel
theorem dX10_findGoals_25 : decode cX10_findGoals 25 = .ok (.iload_n 2, 1) := by decide +kernel
theorem dX10_findGoals_26 : decode cX10_findGoals 26 = .ok (.iaload, 1) := by decide +kernel
theorem dX10_findGoals_27 : decode cX10_findGoals 27 = .ok (.aload_n 0, 1) := by decide +kernel
theorem dX10_findGoals_28 : decode cX10_findGoals 28 = .ok (.getfield 7, 3) := by decide +kernel
theorem dX10_findGoals_31 : decode cX10_findGoals 31 = .ok (.iload_n 1, 1) := by decide +kernel
theorem dX10_findGoals_32 : decode cX10_findGoals 32 = .ok (.iaload, 1) := by decide +kernel
theorem dX10_findGoals_33 : decode cX10_findGoals 33 = .ok (.if_icmp .ne 7, 3) := by decide +kernel
theorem dX10_findGoals_36 : decode cX10_findGoals 36 = .ok (.iload_n 2, 1) := by decide +kernel
theorem dX10_findGoals_37 : decode cX10_findGoals 37 = .ok (.goto 9, 3) := by decide +kernel
theorem dX10_findGoals_40 : decode cX10_findGoals 40 = .ok (.aload_n 0, 1) := by decide +kernel
theorem dX10_findGoals_41 : decode cX10_findGoals 41 = .ok (.getfield 52, 3) := by decide +kernel
theorem dX10_findGoals_44 : decode cX10_findGoals 44 = .ok (.iload_n 1, 1) := by decide +kernel
theorem dX10_findGoals_45 : decode cX10_findGoals 45 = .ok (.iaload, 1) := by decide +kernel
theorem dX10_findGoals_46 : decode cX10_findGoals 46 = .ok (.iastore, 1) := by decide +kernel
theorem dX10_findGoals_47 : decode cX10_findGoals 47 = .ok (.iinc 2 1, 3) := by decide +kernel
theorem dX10_findGoals_50 : decode cX10_findGoals 50 = .ok (.goto (-40), 3) := by decide +kernel
theorem dX10_findGoals_53 : decode cX10_findGoals 53 = .ok (.iinc 1 1, 3) := by decide +kernel
theorem dX10_findGoals_56 : decode cX10_findGoals 56 = .ok (.goto (-54), 3) := by decide +kernel
theorem dX10_findGoals_59 : decode cX10_findGoals 59 = .ok (.return_, 1) := by decide +kernel
set_option maxRecDepth 20000 in
theorem ggX10_ringsOf_X10_has : GoodIn wsX10_ringsOf wsX10_has := goodIn_r _ [5] (by decide +kernel) (by decide +kernel)
set_option maxRecDepth 20000 in
theorem gX10_ringsOf_X10_has : GoodIn wsX10_ringsOf (va_wsS RX10 148 yX10_has wsX10_has) := goodIn_app (goodIn_of _ (by decide +kernel)) ggX10_ringsOf_X10_has
theorem dX10_ringsOf_0 : decode cX10_ringsOf 0 = .ok (.iconst 0, 1) := by decide +kernel
theorem dX10_ringsOf_1 : decode cX10_ringsOf 1 = .ok (.istore_n 1, 1) := by decide +kernel
theorem dX10_ringsOf_2 : decode cX10_ringsOf 2 = .ok (.iconst 0, 1) := by decide +kernel
theorem dX10_ringsOf_3 : decode cX10_ringsOf 3 = .ok (.istore_n 2, 1) := by decide +kernel
theorem dX10_ringsOf_4 : decode cX10_ringsOf 4 = .ok (.iconst 0, 1) := by decide +kernel
theorem dX10_ringsOf_5 : decode cX10_ringsOf 5 = .ok (.istore_n 3, 1) := by decide +kernel
theorem dX10_ringsOf_6 : decode cX10_ringsOf 6 = .ok (.iload_n 3, 1) := by decide +kernel
theorem dX10_ringsOf_7 : decode cX10_ringsOf 7 = .ok (.bipush 6, 2) := by decide +kernel
theorem dX10_ringsOf_9 : decode cX10_ringsOf 9 = .ok (.if_icmp .ge 56, 3) := by decide +kernel
theorem dX10_ringsOf_12 : decode cX10_ringsOf 12 = .ok (.iload_n 2, 1) := by decide +kernel
theorem dX10_ringsOf_13 : decode cX10_ringsOf 13 = .ok (.iload_n 1, 1) := by decide +kernel
theorem dX10_ringsOf_14 : decode cX10_ringsOf 14 = .ok (.iload_n 3, 1) := by decide +kernel
theorem dX10_ringsOf_15 : decode cX10_ringsOf 15 = .ok (.invokestatic 148, 3) := by decide +kernel
theorem dX10_ringsOf_18 : decode cX10_ringsOf 18 = .ok (.ifCond .eq 7, 3) := by decide +kernel
theorem dX10_ringsOf_21 : decode cX10_ringsOf 21 = .ok (.iconst 0, 1) := by decide +kernel
theorem dX10_ringsOf_22 : decode cX10_ringsOf 22 = .ok (.goto 4, 3) := by decide +kernel
theorem dX10_ringsOf_25 : decode cX10_ringsOf 25 = .ok (.iconst 1, 1) := by decide +kernel
theorem dX10_ringsOf_26 : decode cX10_ringsOf 26 = .ok (.iadd, 1) := by decide +kernel
theorem dX10_ringsOf_27 : decode cX10_ringsOf 27 = .ok (.istore_n 2, 1) := by decide +kernel
theorem dX10_ringsOf_28 : decode cX10_ringsOf 28 = .ok (.iload_n 3, 1) := by decide +kernel
theorem dX10_ringsOf_29 : decode cX10_ringsOf 29 = .ok (.istore 4, 2) := by decide +kernel
theorem dX10_ringsOf_31 : decode cX10_ringsOf 31 = .ok (.iload_n 1, 1) := by decide +kernel
theorem dX10_ringsOf_32 : decode cX10_ringsOf 32 = .ok (.iload 4, 2) := by decide +kernel
theorem dX10_ringsOf_34 : decode cX10_ringsOf 34 = .ok (.invokestatic 148, 3) := by decide +kernel
theorem dX10_ringsOf_37 : decode cX10_ringsOf 37 = .ok (.ifCond .ne 22, 3) := by decide +kernel
theorem dX10_ringsOf_40 : decode cX10_ringsOf 40 = .ok (.iload_n 1, 1) := by decide +kernel
theorem dX10_ringsOf_41 : decode cX10_ringsOf 41 = .ok (.iconst 1, 1) := by decide +kernel
theorem dX10_ringsOf_42 : decode cX10_ringsOf 42 = .ok (.iload 4, 2) := by decide +kernel
theorem dX10_ringsOf_44 : decode cX10_ringsOf 44 = .ok (.ishl, 1) := by decide +kernel
theorem dX10_ringsOf_45 : decode cX10_ringsOf 45 = .ok (.ior, 1) := by decide +kernel
theorem dX10_ringsOf_46 : decode cX10_ringsOf 46 = .ok (.istore_n 1, 1) := by decide +kernel
theorem dX10_ringsOf_47 : decode cX10_ringsOf 47 = .ok (.aload_n 0, 1) := by decide +kernel
theorem dX10_ringsOf_48 : decode cX10_ringsOf 48 = .ok (.getfield 52, 3) := by decide +kernel
theorem dX10_ringsOf_51 : decode cX10_ringsOf 51 = .ok (.iload 4, 2) := by decide +kernel
theorem dX10_ringsOf_53 : decode cX10_ringsOf 53 = .ok (.iaload, 1) := by decide +kernel
theorem dX10_ringsOf_54 : decode cX10_ringsOf 54 = .ok (.istore 4, 2) := by decide +kernel
theorem dX10_ringsOf_56 : decode cX10_ringsOf 56 = .ok (.goto (-25), 3) := by decide +kernel
theorem dX10_ringsOf_59 : decode cX10_ringsOf 59 = .ok (.iinc 3 1, 3) := by decide +kernel
theorem dX10_ringsOf_62 : decode cX10_ringsOf 62 = .ok (.goto (-56), 3) := by decide +kernel
theorem dX10_ringsOf_65 : decode cX10_ringsOf 65 = .ok (.iload_n 2, 1) := by decide +kernel
theorem dX10_ringsOf_66 : decode cX10_ringsOf 66 = .ok (.ireturn, 1) := by decide +kernel
theorem dX10_turnedPairs_0 : decode cX10_turnedPairs 0 = .ok (.iconst 0, 1) := by decide +kernel
theorem dX10_turnedPairs_1 : decode cX10_turnedPairs 1 = .ok (.istore_n 1, 1) := by decide +kernel
theorem dX10_turnedPairs_2 : decode cX10_turnedPairs 2 = .ok (.iconst 0, 1) := by decide +kernel
theorem dX10_turnedPairs_3 : decode cX10_turnedPairs 3 = .ok (.istore_n 2, 1) := by decide +kernel
theorem dX10_turnedPairs_4 : decode cX10_turnedPairs 4 = .ok (.iload_n 2, 1) := by decide +kernel
theorem dX10_turnedPairs_5 : decode cX10_turnedPairs 5 = .ok (.bipush 6, 2) := by decide +kernel
theorem dX10_turnedPairs_7 : decode cX10_turnedPairs 7 = .ok (.if_icmp .ge 48, 3) := by decide +kernel
theorem dX10_turnedPairs_10 : decode cX10_turnedPairs 10 = .ok (.iload_n 2, 1) := by decide +kernel
theorem dX10_turnedPairs_11 : decode cX10_turnedPairs 11 = .ok (.iconst 1, 1) := by decide +kernel
theorem dX10_turnedPairs_12 : decode cX10_turnedPairs 12 = .ok (.iadd, 1) := by decide +kernel
theorem dX10_turnedPairs_13 : decode cX10_turnedPairs 13 = .ok (.istore_n 3, 1) := by decide +kernel
theorem dX10_turnedPairs_14 : decode cX10_turnedPairs 14 = .ok (.iload_n 3, 1) := by decide +kernel
theorem dX10_turnedPairs_15 : decode cX10_turnedPairs 15 = .ok (.bipush 6, 2) := by decide +kernel
theorem dX10_turnedPairs_17 : decode cX10_turnedPairs 17 = .ok (.if_icmp .ge 32, 3) := by decide +kernel
theorem dX10_turnedPairs_20 : decode cX10_turnedPairs 20 = .ok (.iload_n 1, 1) := by decide +kernel
theorem dX10_turnedPairs_21 : decode cX10_turnedPairs 21 = .ok (.aload_n 0, 1) := by decide +kernel
theorem dX10_turnedPairs_22 : decode cX10_turnedPairs 22 = .ok (.getfield 52, 3) := by decide +kernel
theorem dX10_turnedPairs_25 : decode cX10_turnedPairs 25 = .ok (.iload_n 2, 1) := by decide +kernel
theorem dX10_turnedPairs_26 : decode cX10_turnedPairs 26 = .ok (.iaload, 1) := by decide +kernel
theorem dX10_turnedPairs_27 : decode cX10_turnedPairs 27 = .ok (.aload_n 0, 1) := by decide +kernel
theorem dX10_turnedPairs_28 : decode cX10_turnedPairs 28 = .ok (.getfield 52, 3) := by decide +kernel
theorem dX10_turnedPairs_31 : decode cX10_turnedPairs 31 = .ok (.iload_n 3, 1) := by decide +kernel
theorem dX10_turnedPairs_32 : decode cX10_turnedPairs 32 = .ok (.iaload, 1) := by decide +kernel
theorem dX10_turnedPairs_33 : decode cX10_turnedPairs 33 = .ok (.if_icmp .le 7, 3) := by decide +kernel
theorem dX10_turnedPairs_36 : decode cX10_turnedPairs 36 = .ok (.iconst 1, 1) := by decide +kernel
theorem dX10_turnedPairs_37 : decode cX10_turnedPairs 37 = .ok (.goto 4, 3) := by decide +kernel
theorem dX10_turnedPairs_40 : decode cX10_turnedPairs 40 = .ok (.iconst 0, 1) := by decide +kernel
theorem dX10_turnedPairs_41 : decode cX10_turnedPairs 41 = .ok (.iadd, 1) := by decide +kernel
theorem dX10_turnedPairs_42 : decode cX10_turnedPairs 42 = .ok (.istore_n 1, 1) := by decide +kernel
theorem dX10_turnedPairs_43 : decode cX10_turnedPairs 43 = .ok (.iinc 3 1, 3) := by decide +kernel
theorem dX10_turnedPairs_46 : decode cX10_turnedPairs 46 = .ok (.goto (-32), 3) := by decide +kernel
theorem dX10_turnedPairs_49 : decode cX10_turnedPairs 49 = .ok (.iinc 2 1, 3) := by decide +kernel
theorem dX10_turnedPairs_52 : decode cX10_turnedPairs 52 = .ok (.goto (-48), 3) := by decide +kernel
theorem dX10_turnedPairs_55 : decode cX10_turnedPairs 55 = .ok (.iload_n 1, 1) := by decide +kernel
theorem dX10_turnedPairs_56 : decode cX10_turnedPairs 56 = .ok (.ireturn, 1) := by decide +kernel
set_option maxRecDepth 20000 in
theorem ggX10_changes_X10_readRow : GoodIn wsX10_changes wsX10_readRow := goodIn_r _ [5, 6, 27, 28, 29, 30, 31, 32, 33, 34, 35, 36, 37, 38, 39, 40, 41, 42, 43, 44, 45, 46, 47, 48, 49, 50, 51, 52, 53, 54, 55, 56, 57, 58, 59, 60] (by decide +kernel) (by decide +kernel)
set_option maxRecDepth 20000 in
theorem gX10_changes_X10_readRow : GoodIn wsX10_changes (wsV RX10 87 RX10 yX10_readRow wsX10_readRow) := goodIn_app (goodIn_of _ (by decide +kernel)) ggX10_changes_X10_readRow
set_option maxRecDepth 20000 in
theorem ggX10_changes_X10_in : GoodIn wsX10_changes wsX10_in := goodIn_r _ [9] (by decide +kernel) (by decide +kernel)
set_option maxRecDepth 20000 in
theorem gX10_changes_X10_in : GoodIn wsX10_changes (va_wsS RX10 79 yX10_in wsX10_in) := goodIn_app (goodIn_of _ (by decide +kernel)) ggX10_changes_X10_in
set_option maxRecDepth 20000 in
theorem ggX10_changes_X10_findGoals : GoodIn wsX10_changes wsX10_findGoals := goodIn_r _ [13, 14, 6, 15, 27, 28, 29, 30, 31, 32, 33, 34, 35, 36, 37, 38, 39, 40, 41, 42, 43, 44, 45, 46, 47, 48, 49, 50, 51, 52, 53, 54, 55, 56, 57, 58, 59, 60] (by decide +kernel) (by decide +kernel)
set_option maxRecDepth 20000 in
theorem gX10_changes_X10_findGoals : GoodIn wsX10_changes (wsV RX10 225 RX10 yX10_findGoals wsX10_findGoals) := goodIn_app (goodIn_of _ (by decide +kernel)) ggX10_changes_X10_findGoals
set_option maxRecDepth 20000 in
theorem ggX10_changes_X10_ringsOf : GoodIn wsX10_changes wsX10_ringsOf := goodIn_r _ [19, 14, 20, 21, 4, 22, 27, 28, 29, 30, 31, 32, 33, 34, 35, 36, 37, 38, 39, 40, 41, 42, 43, 44, 45, 46, 47, 48, 49, 50, 51, 52, 53, 54, 55, 56, 57, 58, 59, 60] (by decide +kernel) (by decide +kernel)
set_option maxRecDepth 20000 in
theorem gX10_changes_X10_ringsOf : GoodIn wsX10_changes (wsV RX10 228 RX10 yX10_ringsOf wsX10_ringsOf) := goodIn_app (goodIn_of _ (by decide +kernel)) ggX10_changes_X10_ringsOf
set_option maxRecDepth 20000 in
theorem ggX10_changes_X10_turnedPairs : GoodIn wsX10_changes wsX10_turnedPairs := goodIn_r _ [26, 14, 27, 28, 29, 30, 31, 32, 33, 34, 35, 36, 37, 38, 39, 40, 41, 42, 43, 44, 45, 46, 47, 48, 49, 50, 51, 52, 53, 54, 55, 56, 57, 58, 59, 60] (by decide +kernel) (by decide +kernel)
set_option maxRecDepth 20000 in
theorem gX10_changes_X10_turnedPairs : GoodIn wsX10_changes (wsV RX10 231 RX10 yX10_turnedPairs wsX10_turnedPairs) := goodIn_app (goodIn_of _ (by decide +kernel)) ggX10_changes_X10_turnedPairs
theorem dX10_changes_0 : decode cX10_changes 0 = .ok (.aload_n 0, 1) := by decide +kernel
theorem dX10_changes_1 : decode cX10_changes 1 = .ok (.iload_n 1, 1) := by decide +kernel
theorem dX10_changes_2 : decode cX10_changes 2 = .ok (.invokevirtual 87, 3) := by decide +kernel
theorem dX10_changes_5 : decode cX10_changes 5 = .ok (.ifCond .eq 13, 3) := by decide +kernel
theorem dX10_changes_8 : decode cX10_changes 8 = .ok (.iload_n 2, 1) := by decide +kernel
theorem dX10_changes_9 : decode cX10_changes 9 = .ok (.i2l, 1) := by decide +kernel
theorem dX10_changes_10 : decode cX10_changes 10 = .ok (.lconst 0, 1) := by decide +kernel
theorem dX10_changes_11 : decode cX10_changes 11 = .ok (.lconst 1, 1) := by decide +kernel
theorem dX10_changes_12 : decode cX10_changes 12 = .ok (.invokestatic 79, 3) := by decide +kernel
theorem dX10_changes_15 : decode cX10_changes 15 = .ok (.ifCond .ne 6, 3) := by decide +kernel
theorem dX10_changes_18 : decode cX10_changes 18 = .ok (.bipush (-2), 2) := by decide +kernel
theorem dX10_changes_20 : decode cX10_changes 20 = .ok (.ireturn, 1) := by decide +kernel
theorem dX10_changes_21 : decode cX10_changes 21 = .ok (.aload_n 0, 1) := by decide +kernel
theorem dX10_changes_22 : decode cX10_changes 22 = .ok (.invokevirtual 225, 3) := by decide +kernel
theorem dX10_changes_25 : decode cX10_changes 25 = .ok (.iload_n 2, 1) := by decide +kernel
theorem dX10_changes_26 : decode cX10_changes 26 = .ok (.ifCond .ne 13, 3) := by decide +kernel
theorem dX10_changes_29 : decode cX10_changes 29 = .ok (.bipush 6, 2) := by decide +kernel
theorem dX10_changes_31 : decode cX10_changes 31 = .ok (.aload_n 0, 1) := by decide +kernel
theorem dX10_changes_32 : decode cX10_changes 32 = .ok (.invokevirtual 228, 3) := by decide +kernel
theorem dX10_changes_35 : decode cX10_changes 35 = .ok (.isub, 1) := by decide +kernel
theorem dX10_changes_36 : decode cX10_changes 36 = .ok (.goto 7, 3) := by decide +kernel
theorem dX10_changes_39 : decode cX10_changes 39 = .ok (.aload_n 0, 1) := by decide +kernel
theorem dX10_changes_40 : decode cX10_changes 40 = .ok (.invokevirtual 231, 3) := by decide +kernel
theorem dX10_changes_43 : decode cX10_changes 43 = .ok (.ireturn, 1) := by decide +kernel
theorem dX10_ordersOf_0 : decode cX10_ordersOf 0 = .ok (.iconst 1, 1) := by decide +kernel
theorem dX10_ordersOf_1 : decode cX10_ordersOf 1 = .ok (.istore_n 1, 1) := by decide +kernel
theorem dX10_ordersOf_2 : decode cX10_ordersOf 2 = .ok (.iconst 2, 1) := by decide +kernel
theorem dX10_ordersOf_3 : decode cX10_ordersOf 3 = .ok (.istore_n 2, 1) := by decide +kernel
theorem dX10_ordersOf_4 : decode cX10_ordersOf 4 = .ok (.iload_n 2, 1) := by decide +kernel
theorem dX10_ordersOf_5 : decode cX10_ordersOf 5 = .ok (.iload_n 0, 1) := by decide +kernel
theorem dX10_ordersOf_6 : decode cX10_ordersOf 6 = .ok (.if_icmp .gt 13, 3) := by decide +kernel
theorem dX10_ordersOf_9 : decode cX10_ordersOf 9 = .ok (.iload_n 1, 1) := by decide +kernel
theorem dX10_ordersOf_10 : decode cX10_ordersOf 10 = .ok (.iload_n 2, 1) := by decide +kernel
theorem dX10_ordersOf_11 : decode cX10_ordersOf 11 = .ok (.imul, 1) := by decide +kernel
theorem dX10_ordersOf_12 : decode cX10_ordersOf 12 = .ok (.istore_n 1, 1) := by decide +kernel
theorem dX10_ordersOf_13 : decode cX10_ordersOf 13 = .ok (.iinc 2 1, 3) := by decide +kernel
theorem dX10_ordersOf_16 : decode cX10_ordersOf 16 = .ok (.goto (-12), 3) := by decide +kernel
theorem dX10_ordersOf_19 : decode cX10_ordersOf 19 = .ok (.iload_n 1, 1) := by decide +kernel
theorem dX10_ordersOf_20 : decode cX10_ordersOf 20 = .ok (.ireturn, 1) := by decide +kernel
set_option maxRecDepth 20000 in
theorem ggX10_rankOfDigits_X10_ordersOf : GoodIn wsX10_rankOfDigits wsX10_ordersOf := goodIn_r _ [5] (by decide +kernel) (by decide +kernel)
set_option maxRecDepth 20000 in
theorem gX10_rankOfDigits_X10_ordersOf : GoodIn wsX10_rankOfDigits (va_wsS RX10 234 yX10_ordersOf wsX10_ordersOf) := goodIn_app (goodIn_of _ (by decide +kernel)) ggX10_rankOfDigits_X10_ordersOf
theorem dX10_rankOfDigits_0 : decode cX10_rankOfDigits 0 = .ok (.iconst 0, 1) := by decide +kernel
theorem dX10_rankOfDigits_1 : decode cX10_rankOfDigits 1 = .ok (.istore_n 1, 1) := by decide +kernel
theorem dX10_rankOfDigits_2 : decode cX10_rankOfDigits 2 = .ok (.iconst 0, 1) := by decide +kernel
theorem dX10_rankOfDigits_3 : decode cX10_rankOfDigits 3 = .ok (.istore_n 2, 1) := by decide +kernel
theorem dX10_rankOfDigits_4 : decode cX10_rankOfDigits 4 = .ok (.iload_n 2, 1) := by decide +kernel
theorem dX10_rankOfDigits_5 : decode cX10_rankOfDigits 5 = .ok (.bipush 6, 2) := by decide +kernel
theorem dX10_rankOfDigits_7 : decode cX10_rankOfDigits 7 = .ok (.if_icmp .ge 64, 3) := by decide +kernel
theorem dX10_rankOfDigits_10 : decode cX10_rankOfDigits 10 = .ok (.iconst 0, 1) := by decide +kernel
theorem dX10_rankOfDigits_11 : decode cX10_rankOfDigits 11 = .ok (.istore_n 3, 1) := by decide +kernel
theorem dX10_rankOfDigits_12 : decode cX10_rankOfDigits 12 = .ok (.iload_n 2, 1) := by decide +kernel
theorem dX10_rankOfDigits_13 : decode cX10_rankOfDigits 13 = .ok (.iconst 1, 1) := by decide +kernel
theorem dX10_rankOfDigits_14 : decode cX10_rankOfDigits 14 = .ok (.iadd, 1) := by decide +kernel
theorem dX10_rankOfDigits_15 : decode cX10_rankOfDigits 15 = .ok (.istore 4, 2) := by decide +kernel
theorem dX10_rankOfDigits_17 : decode cX10_rankOfDigits 17 = .ok (.iload 4, 2) := by decide +kernel
theorem dX10_rankOfDigits_19 : decode cX10_rankOfDigits 19 = .ok (.bipush 6, 2) := by decide +kernel
theorem dX10_rankOfDigits_21 : decode cX10_rankOfDigits 21 = .ok (.if_icmp .ge 33, 3) := by decide +kernel
theorem dX10_rankOfDigits_24 : decode cX10_rankOfDigits 24 = .ok (.iload_n 3, 1) := by decide +kernel
theorem dX10_rankOfDigits_25 : decode cX10_rankOfDigits 25 = .ok (.aload_n 0, 1) := by decide +kernel
theorem dX10_rankOfDigits_26 : decode cX10_rankOfDigits 26 = .ok (.getfield 31, 3) := by decide +kernel
theorem dX10_rankOfDigits_29 : decode cX10_rankOfDigits 29 = .ok (.iload 4, 2) := by decide +kernel
theorem dX10_rankOfDigits_31 : decode cX10_rankOfDigits 31 = .ok (.iaload, 1) := by decide +kernel
theorem dX10_rankOfDigits_32 : decode cX10_rankOfDigits 32 = .ok (.aload_n 0, 1) := by decide +kernel
theorem dX10_rankOfDigits_33 : decode cX10_rankOfDigits 33 = .ok (.getfield 31, 3) := by decide +kernel
theorem dX10_rankOfDigits_36 : decode cX10_rankOfDigits 36 = .ok (.iload_n 2, 1) := by decide +kernel
theorem dX10_rankOfDigits_37 : decode cX10_rankOfDigits 37 = .ok (.iaload, 1) := by decide +kernel
theorem dX10_rankOfDigits_38 : decode cX10_rankOfDigits 38 = .ok (.if_icmp .ge 7, 3) := by decide +kernel
theorem dX10_rankOfDigits_41 : decode cX10_rankOfDigits 41 = .ok (.iconst 1, 1) := by decide +kernel
theorem dX10_rankOfDigits_42 : decode cX10_rankOfDigits 42 = .ok (.goto 4, 3) := by decide +kernel
theorem dX10_rankOfDigits_45 : decode cX10_rankOfDigits 45 = .ok (.iconst 0, 1) := by decide +kernel
theorem dX10_rankOfDigits_46 : decode cX10_rankOfDigits 46 = .ok (.iadd, 1) := by decide +kernel
theorem dX10_rankOfDigits_47 : decode cX10_rankOfDigits 47 = .ok (.istore_n 3, 1) := by decide +kernel
theorem dX10_rankOfDigits_48 : decode cX10_rankOfDigits 48 = .ok (.iinc 4 1, 3) := by decide +kernel
theorem dX10_rankOfDigits_51 : decode cX10_rankOfDigits 51 = .ok (.goto (-34), 3) := by decide +kernel
theorem dX10_rankOfDigits_54 : decode cX10_rankOfDigits 54 = .ok (.iload_n 1, 1) := by decide +kernel
theorem dX10_rankOfDigits_55 : decode cX10_rankOfDigits 55 = .ok (.iload_n 3, 1) := by decide +kernel
theorem dX10_rankOfDigits_56 : decode cX10_rankOfDigits 56 = .ok (.iconst 5, 1) := by decide +kernel
theorem dX10_rankOfDigits_57 : decode cX10_rankOfDigits 57 = .ok (.iload_n 2, 1) := by decide +kernel
theorem dX10_rankOfDigits_58 : decode cX10_rankOfDigits 58 = .ok (.isub, 1) := by decide +kernel
theorem dX10_rankOfDigits_59 : decode cX10_rankOfDigits 59 = .ok (.invokestatic 234, 3) := by decide +kernel
theorem dX10_rankOfDigits_62 : decode cX10_rankOfDigits 62 = .ok (.imul, 1) := by decide +kernel
theorem dX10_rankOfDigits_63 : decode cX10_rankOfDigits 63 = .ok (.iadd, 1) := by decide +kernel
theorem dX10_rankOfDigits_64 : decode cX10_rankOfDigits 64 = .ok (.istore_n 1, 1) := by decide +kernel
theorem dX10_rankOfDigits_65 : decode cX10_rankOfDigits 65 = .ok (.iinc 2 1, 3) := by decide +kernel
theorem dX10_rankOfDigits_68 : decode cX10_rankOfDigits 68 = .ok (.goto (-64), 3) := by decide +kernel
theorem dX10_rankOfDigits_71 : decode cX10_rankOfDigits 71 = .ok (.iload_n 1, 1) := by decide +kernel
theorem dX10_rankOfDigits_72 : decode cX10_rankOfDigits 72 = .ok (.ireturn, 1) := by decide +kernel
set_option maxRecDepth 20000 in
theorem ggX10_figureOf_X10_has : GoodIn wsX10_figureOf wsX10_has := goodIn_r _ [4] (by decide +kernel) (by decide +kernel)
set_option maxRecDepth 20000 in
theorem gX10_figureOf_X10_has : GoodIn wsX10_figureOf (va_wsS RX10 148 yX10_has wsX10_has) := goodIn_app (goodIn_of _ (by decide +kernel)) ggX10_figureOf_X10_has
theorem dX10_figureOf_0 : decode cX10_figureOf 0 = .ok (.bipush (-6), 2) := by decide +kernel
theorem dX10_figureOf_2 : decode cX10_figureOf 2 = .ok (.istore_n 2, 1) := by decide +kernel
theorem dX10_figureOf_3 : decode cX10_figureOf 3 = .ok (.iconst 0, 1) := by decide +kernel
theorem dX10_figureOf_4 : decode cX10_figureOf 4 = .ok (.istore_n 3, 1) := by decide +kernel
theorem dX10_figureOf_5 : decode cX10_figureOf 5 = .ok (.iconst 0, 1) := by decide +kernel
theorem dX10_figureOf_6 : decode cX10_figureOf 6 = .ok (.istore 4, 2) := by decide +kernel
theorem dX10_figureOf_8 : decode cX10_figureOf 8 = .ok (.iload 4, 2) := by decide +kernel
theorem dX10_figureOf_10 : decode cX10_figureOf 10 = .ok (.bipush 6, 2) := by decide +kernel
theorem dX10_figureOf_12 : decode cX10_figureOf 12 = .ok (.if_icmp .ge 47, 3) := by decide +kernel
theorem dX10_figureOf_15 : decode cX10_figureOf 15 = .ok (.iload_n 0, 1) := by decide +kernel
theorem dX10_figureOf_16 : decode cX10_figureOf 16 = .ok (.iload 4, 2) := by decide +kernel
theorem dX10_figureOf_18 : decode cX10_figureOf 18 = .ok (.invokestatic 148, 3) := by decide +kernel
theorem dX10_figureOf_21 : decode cX10_figureOf 21 = .ok (.ifCond .eq 13, 3) := by decide +kernel
theorem dX10_figureOf_24 : decode cX10_figureOf 24 = .ok (.iload_n 3, 1) := by decide +kernel
theorem dX10_figureOf_25 : decode cX10_figureOf 25 = .ok (.iload_n 1, 1) := by decide +kernel
theorem dX10_figureOf_26 : decode cX10_figureOf 26 = .ok (.if_icmp .ne 8, 3) := by decide +kernel
theorem dX10_figureOf_29 : decode cX10_figureOf 29 = .ok (.iload 4, 2) := by decide +kernel
theorem dX10_figureOf_31 : decode cX10_figureOf 31 = .ok (.goto 4, 3) := by decide +kernel
theorem dX10_figureOf_34 : decode cX10_figureOf 34 = .ok (.iload_n 2, 1) := by decide +kernel
theorem dX10_figureOf_35 : decode cX10_figureOf 35 = .ok (.istore_n 2, 1) := by decide +kernel
theorem dX10_figureOf_36 : decode cX10_figureOf 36 = .ok (.iload_n 3, 1) := by decide +kernel
theorem dX10_figureOf_37 : decode cX10_figureOf 37 = .ok (.iload_n 0, 1) := by decide +kernel
theorem dX10_figureOf_38 : decode cX10_figureOf 38 = .ok (.iload 4, 2) := by decide +kernel
theorem dX10_figureOf_40 : decode cX10_figureOf 40 = .ok (.invokestatic 148, 3) := by decide +kernel
theorem dX10_figureOf_43 : decode cX10_figureOf 43 = .ok (.ifCond .eq 7, 3) := by decide +kernel
theorem dX10_figureOf_46 : decode cX10_figureOf 46 = .ok (.iconst 1, 1) := by decide +kernel
theorem dX10_figureOf_47 : decode cX10_figureOf 47 = .ok (.goto 4, 3) := by decide +kernel
theorem dX10_figureOf_50 : decode cX10_figureOf 50 = .ok (.iconst 0, 1) := by decide +kernel
theorem dX10_figureOf_51 : decode cX10_figureOf 51 = .ok (.iadd, 1) := by decide +kernel
theorem dX10_figureOf_52 : decode cX10_figureOf 52 = .ok (.istore_n 3, 1) := by decide +kernel
theorem dX10_figureOf_53 : decode cX10_figureOf 53 = .ok (.iinc 4 1, 3) := by decide +kernel
theorem dX10_figureOf_56 : decode cX10_figureOf 56 = .ok (.goto (-48), 3) := by decide +kernel
theorem dX10_figureOf_59 : decode cX10_figureOf 59 = .ok (.iload_n 2, 1) := by decide +kernel
theorem dX10_figureOf_60 : decode cX10_figureOf 60 = .ok (.ireturn, 1) := by decide +kernel
set_option maxRecDepth 20000 in
theorem ggX10_layDigits_X10_ordersOf : GoodIn wsX10_layDigits wsX10_ordersOf := goodIn_r _ [5] (by decide +kernel) (by decide +kernel)
set_option maxRecDepth 20000 in
theorem gX10_layDigits_X10_ordersOf : GoodIn wsX10_layDigits (va_wsS RX10 234 yX10_ordersOf wsX10_ordersOf) := goodIn_app (goodIn_of _ (by decide +kernel)) ggX10_layDigits_X10_ordersOf
set_option maxRecDepth 20000 in
theorem ggX10_layDigits_X10_figureOf : GoodIn wsX10_layDigits wsX10_figureOf := goodIn_r _ [8, 9, 10, 4, 11] (by decide +kernel) (by decide +kernel)
set_option maxRecDepth 20000 in
theorem gX10_layDigits_X10_figureOf : GoodIn wsX10_layDigits (va_wsS RX10 237 yX10_figureOf wsX10_figureOf) := goodIn_app (goodIn_of _ (by decide +kernel)) ggX10_layDigits_X10_figureOf
theorem dX10_layDigits_0 : decode cX10_layDigits 0 = .ok (.bipush 63, 2) := by decide +kernel
theorem dX10_layDigits_2 : decode cX10_layDigits 2 = .ok (.istore_n 2, 1) := by decide +kernel
theorem dX10_layDigits_3 : decode cX10_layDigits 3 = .ok (.iload_n 1, 1) := by decide +kernel
theorem dX10_layDigits_4 : decode cX10_layDigits 4 = .ok (.istore_n 3, 1) := by decide +kernel
theorem dX10_layDigits_5 : decode cX10_layDigits 5 = .ok (.iconst 0, 1) := by decide +kernel
theorem dX10_layDigits_6 : decode cX10_layDigits 6 = .ok (.istore 4, 2) := by decide +kernel
theorem dX10_layDigits_8 : decode cX10_layDigits 8 = .ok (.iload 4, 2) := by decide +kernel
theorem dX10_layDigits_10 : decode cX10_layDigits 10 = .ok (.bipush 6, 2) := by decide +kernel
theorem dX10_layDigits_12 : decode cX10_layDigits 12 = .ok (.if_icmp .ge 52, 3) := by decide +kernel
theorem dX10_layDigits_15 : decode cX10_layDigits 15 = .ok (.iconst 5, 1) := by decide +kernel
theorem dX10_layDigits_16 : decode cX10_layDigits 16 = .ok (.iload 4, 2) := by decide +kernel
theorem dX10_layDigits_18 : decode cX10_layDigits 18 = .ok (.isub, 1) := by decide +kernel
theorem dX10_layDigits_19 : decode cX10_layDigits 19 = .ok (.invokestatic 234, 3) := by decide +kernel
theorem dX10_layDigits_22 : decode cX10_layDigits 22 = .ok (.istore 5, 2) := by decide +kernel
theorem dX10_layDigits_24 : decode cX10_layDigits 24 = .ok (.aload_n 0, 1) := by decide +kernel
theorem dX10_layDigits_25 : decode cX10_layDigits 25 = .ok (.getfield 31, 3) := by decide +kernel
theorem dX10_layDigits_28 : decode cX10_layDigits 28 = .ok (.iload 4, 2) := by decide +kernel
theorem dX10_layDigits_30 : decode cX10_layDigits 30 = .ok (.iload_n 2, 1) := by decide +kernel
theorem dX10_layDigits_31 : decode cX10_layDigits 31 = .ok (.iload_n 3, 1) := by decide +kernel
theorem dX10_layDigits_32 : decode cX10_layDigits 32 = .ok (.iload 5, 2) := by decide +kernel
theorem dX10_layDigits_34 : decode cX10_layDigits 34 = .ok (.idiv, 1) := by decide +kernel
theorem dX10_layDigits_35 : decode cX10_layDigits 35 = .ok (.invokestatic 237, 3) := by decide +kernel
theorem dX10_layDigits_38 : decode cX10_layDigits 38 = .ok (.iastore, 1) := by decide +kernel
theorem dX10_layDigits_39 : decode cX10_layDigits 39 = .ok (.iload_n 2, 1) := by decide +kernel
theorem dX10_layDigits_40 : decode cX10_layDigits 40 = .ok (.iconst 1, 1) := by decide +kernel
theorem dX10_layDigits_41 : decode cX10_layDigits 41 = .ok (.aload_n 0, 1) := by decide +kernel
theorem dX10_layDigits_42 : decode cX10_layDigits 42 = .ok (.getfield 31, 3) := by decide +kernel
theorem dX10_layDigits_45 : decode cX10_layDigits 45 = .ok (.iload 4, 2) := by decide +kernel
theorem dX10_layDigits_47 : decode cX10_layDigits 47 = .ok (.iaload, 1) := by decide +kernel
theorem dX10_layDigits_48 : decode cX10_layDigits 48 = .ok (.ishl, 1) := by decide +kernel
theorem dX10_layDigits_49 : decode cX10_layDigits 49 = .ok (.iconst (-1), 1) := by decide +kernel
theorem dX10_layDigits_50 : decode cX10_layDigits 50 = .ok (.ixor, 1) := by decide +kernel
theorem dX10_layDigits_51 : decode cX10_layDigits 51 = .ok (.iand, 1) := by decide +kernel
theorem dX10_layDigits_52 : decode cX10_layDigits 52 = .ok (.istore_n 2, 1) := by decide +kernel
theorem dX10_layDigits_53 : decode cX10_layDigits 53 = .ok (.iload_n 3, 1) := by decide +kernel
theorem dX10_layDigits_54 : decode cX10_layDigits 54 = .ok (.iload 5, 2) := by decide +kernel
theorem dX10_layDigits_56 : decode cX10_layDigits 56 = .ok (.irem, 1) := by decide +kernel
theorem dX10_layDigits_57 : decode cX10_layDigits 57 = .ok (.istore_n 3, 1) := by decide +kernel
theorem dX10_layDigits_58 : decode cX10_layDigits 58 = .ok (.iinc 4 1, 3) := by decide +kernel
theorem dX10_layDigits_61 : decode cX10_layDigits 61 = .ok (.goto (-53), 3) := by decide +kernel
theorem dX10_layDigits_64 : decode cX10_layDigits 64 = .ok (.return_, 1) := by decide +kernel
set_option maxRecDepth 20000 in
theorem ggX10_rank_X10_readRow : GoodIn wsX10_rank wsX10_readRow := goodIn_r _ [5, 6, 14, 15, 16, 17, 18, 19, 20, 21, 22, 23, 24, 25, 26, 27, 28, 29, 30, 31, 32, 33, 34, 35, 36, 37, 38, 39, 40, 41, 42, 43, 44, 45, 46, 47] (by decide +kernel) (by decide +kernel)
set_option maxRecDepth 20000 in
theorem gX10_rank_X10_readRow : GoodIn wsX10_rank (wsV RX10 87 RX10 yX10_readRow wsX10_readRow) := goodIn_app (goodIn_of _ (by decide +kernel)) ggX10_rank_X10_readRow
set_option maxRecDepth 20000 in
theorem ggX10_rank_X10_rankOfDigits : GoodIn wsX10_rank wsX10_rankOfDigits := goodIn_r _ [10, 6, 11, 12, 4, 13, 14, 15, 16, 17, 18, 19, 20, 21, 22, 23, 24, 25, 26, 27, 28, 29, 30, 31, 32, 33, 34, 35, 36, 37, 38, 39, 40, 41, 42, 43, 44, 45, 46, 47] (by decide +kernel) (by decide +kernel)
set_option maxRecDepth 20000 in
theorem gX10_rank_X10_rankOfDigits : GoodIn wsX10_rank (wsV RX10 240 RX10 yX10_rankOfDigits wsX10_rankOfDigits) := goodIn_app (goodIn_of _ (by decide +kernel)) ggX10_rank_X10_rankOfDigits
theorem dX10_rank_0 : decode cX10_rank 0 = .ok (.aload_n 0, 1) := by decide +kernel
theorem dX10_rank_1 : decode cX10_rank 1 = .ok (.iload_n 1, 1) := by decide +kernel
theorem dX10_rank_2 : decode cX10_rank 2 = .ok (.invokevirtual 87, 3) := by decide +kernel
theorem dX10_rank_5 : decode cX10_rank 5 = .ok (.ifCond .eq 10, 3) := by decide +kernel
theorem dX10_rank_8 : decode cX10_rank 8 = .ok (.aload_n 0, 1) := by decide +kernel
theorem dX10_rank_9 : decode cX10_rank 9 = .ok (.invokevirtual 240, 3) := by decide +kernel
theorem dX10_rank_12 : decode cX10_rank 12 = .ok (.goto 5, 3) := by decide +kernel
theorem dX10_rank_15 : decode cX10_rank 15 = .ok (.bipush (-2), 2) := by decide +kernel
theorem dX10_rank_17 : decode cX10_rank 17 = .ok (.ireturn, 1) := by decide +kernel
set_option maxRecDepth 20000 in
theorem ggX10_row_X10_in : GoodIn wsX10_row wsX10_in := goodIn_r _ [6] (by decide +kernel) (by decide +kernel)
set_option maxRecDepth 20000 in
theorem gX10_row_X10_in : GoodIn wsX10_row (va_wsS RX10 79 yX10_in wsX10_in) := goodIn_app (goodIn_of _ (by decide +kernel)) ggX10_row_X10_in
set_option maxRecDepth 20000 in
theorem ggX10_row_X10_layDigits : GoodIn wsX10_row wsX10_layDigits := goodIn_r _ [10, 2, 11, 12, 5, 13, 14, 15, 16, 17, 18, 19, 20, 21, 22, 23, 24, 25, 26, 27, 28, 29, 30, 31, 32, 33, 34, 35, 36, 37, 38, 39, 40, 41, 42, 43, 44, 45, 46, 47, 48, 49, 50, 51, 52, 53] (by decide +kernel) (by decide +kernel)
set_option maxRecDepth 20000 in
theorem gX10_row_X10_layDigits : GoodIn wsX10_row (wsV RX10 245 RX10 yX10_layDigits wsX10_layDigits) := goodIn_app (goodIn_of _ (by decide +kernel)) ggX10_row_X10_layDigits
theorem dX10_row_0 : decode cX10_row 0 = .ok (.iload_n 1, 1) := by decide +kernel
theorem dX10_row_1 : decode cX10_row 1 = .ok (.i2l, 1) := by decide +kernel
theorem dX10_row_2 : decode cX10_row 2 = .ok (.lconst 0, 1) := by decide +kernel
theorem dX10_row_3 : decode cX10_row 3 = .ok (.ldc2_w 243, 3) := by decide +kernel
theorem dX10_row_6 : decode cX10_row 6 = .ok (.invokestatic 79, 3) := by decide +kernel
theorem dX10_row_9 : decode cX10_row 9 = .ok (.ifCond .ne 6, 3) := by decide +kernel
theorem dX10_row_12 : decode cX10_row 12 = .ok (.bipush (-2), 2) := by decide +kernel
theorem dX10_row_14 : decode cX10_row 14 = .ok (.ireturn, 1) := by decide +kernel
theorem dX10_row_15 : decode cX10_row 15 = .ok (.aload_n 0, 1) := by decide +kernel
theorem dX10_row_16 : decode cX10_row 16 = .ok (.iload_n 1, 1) := by decide +kernel
theorem dX10_row_17 : decode cX10_row 17 = .ok (.invokevirtual 245, 3) := by decide +kernel
theorem dX10_row_20 : decode cX10_row 20 = .ok (.iconst 0, 1) := by decide +kernel
theorem dX10_row_21 : decode cX10_row 21 = .ok (.istore_n 2, 1) := by decide +kernel
theorem dX10_row_22 : decode cX10_row 22 = .ok (.iconst 0, 1) := by decide +kernel
theorem dX10_row_23 : decode cX10_row 23 = .ok (.istore_n 3, 1) := by decide +kernel
theorem dX10_row_24 : decode cX10_row 24 = .ok (.iload_n 3, 1) := by decide +kernel
theorem dX10_row_25 : decode cX10_row 25 = .ok (.bipush 6, 2) := by decide +kernel
theorem dX10_row_27 : decode cX10_row 27 = .ok (.if_icmp .ge 21, 3) := by decide +kernel
theorem dX10_row_30 : decode cX10_row 30 = .ok (.bipush 10, 2) := by decide +kernel
theorem dX10_row_32 : decode cX10_row 32 = .ok (.iload_n 2, 1) := by decide +kernel
theorem dX10_row_33 : decode cX10_row 33 = .ok (.imul, 1) := by decide +kernel
theorem dX10_row_34 : decode cX10_row 34 = .ok (.aload_n 0, 1) := by decide +kernel
theorem dX10_row_35 : decode cX10_row 35 = .ok (.getfield 31, 3) := by decide +kernel
theorem dX10_row_38 : decode cX10_row 38 = .ok (.iload_n 3, 1) := by decide +kernel
theorem dX10_row_39 : decode cX10_row 39 = .ok (.iaload, 1) := by decide +kernel
theorem dX10_row_40 : decode cX10_row 40 = .ok (.iadd, 1) := by decide +kernel
theorem dX10_row_41 : decode cX10_row 41 = .ok (.istore_n 2, 1) := by decide +kernel
theorem dX10_row_42 : decode cX10_row 42 = .ok (.iinc 3 1, 3) := by decide +kernel
theorem dX10_row_45 : decode cX10_row 45 = .ok (.goto (-21), 3) := by decide +kernel
theorem dX10_row_48 : decode cX10_row 48 = .ok (.iload_n 2, 1) := by decide +kernel
theorem dX10_row_49 : decode cX10_row 49 = .ok (.ireturn, 1) := by decide +kernel
theorem dX10_findPairs_0 : decode cX10_findPairs 0 = .ok (.iconst 0, 1) := by decide +kernel
theorem dX10_findPairs_1 : decode cX10_findPairs 1 = .ok (.istore_n 1, 1) := by decide +kernel
theorem dX10_findPairs_2 : decode cX10_findPairs 2 = .ok (.iconst 0, 1) := by decide +kernel
theorem dX10_findPairs_3 : decode cX10_findPairs 3 = .ok (.istore_n 2, 1) := by decide +kernel
theorem dX10_findPairs_4 : decode cX10_findPairs 4 = .ok (.iload_n 2, 1) := by decide +kernel
theorem dX10_findPairs_5 : decode cX10_findPairs 5 = .ok (.bipush 6, 2) := by decide +kernel
theorem dX10_findPairs_7 : decode cX10_findPairs 7 = .ok (.if_icmp .ge 42, 3) := by decide +kernel
theorem dX10_findPairs_10 : decode cX10_findPairs 10 = .ok (.iload_n 2, 1) := by decide +kernel
theorem dX10_findPairs_11 : decode cX10_findPairs 11 = .ok (.iconst 1, 1) := by decide +kernel
theorem dX10_findPairs_12 : decode cX10_findPairs 12 = .ok (.iadd, 1) := by decide +kernel
theorem dX10_findPairs_13 : decode cX10_findPairs 13 = .ok (.istore_n 3, 1) := by decide +kernel
theorem dX10_findPairs_14 : decode cX10_findPairs 14 = .ok (.iload_n 3, 1) := by decide +kernel
theorem dX10_findPairs_15 : decode cX10_findPairs 15 = .ok (.bipush 6, 2) := by decide +kernel
theorem dX10_findPairs_17 : decode cX10_findPairs 17 = .ok (.if_icmp .ge 26, 3) := by decide +kernel
theorem dX10_findPairs_20 : decode cX10_findPairs 20 = .ok (.aload_n 0, 1) := by decide +kernel
theorem dX10_findPairs_21 : decode cX10_findPairs 21 = .ok (.getfield 58, 3) := by decide +kernel
theorem dX10_findPairs_24 : decode cX10_findPairs 24 = .ok (.iload_n 1, 1) := by decide +kernel
theorem dX10_findPairs_25 : decode cX10_findPairs 25 = .ok (.iload_n 2, 1) := by decide +kernel
theorem dX10_findPairs_26 : decode cX10_findPairs 26 = .ok (.iastore, 1) := by decide +kernel
theorem dX10_findPairs_27 : decode cX10_findPairs 27 = .ok (.aload_n 0, 1) := by decide +kernel
theorem dX10_findPairs_28 : decode cX10_findPairs 28 = .ok (.getfield 61, 3) := by decide +kernel
theorem dX10_findPairs_31 : decode cX10_findPairs 31 = .ok (.iload_n 1, 1) := by decide +kernel
theorem dX10_findPairs_32 : decode cX10_findPairs 32 = .ok (.iload_n 3, 1) := by decide +kernel
theorem dX10_findPairs_33 : decode cX10_findPairs 33 = .ok (.iastore, 1) := by decide +kernel
theorem dX10_findPairs_34 : decode cX10_findPairs 34 = .ok (.iinc 1 1, 3) := by decide +kernel
theorem dX10_findPairs_37 : decode cX10_findPairs 37 = .ok (.iinc 3 1, 3) := by decide +kernel
theorem dX10_findPairs_40 : decode cX10_findPairs 40 = .ok (.goto (-26), 3) := by decide +kernel
theorem dX10_findPairs_43 : decode cX10_findPairs 43 = .ok (.iinc 2 1, 3) := by decide +kernel
theorem dX10_findPairs_46 : decode cX10_findPairs 46 = .ok (.goto (-42), 3) := by decide +kernel
theorem dX10_findPairs_49 : decode cX10_findPairs 49 = .ok (.return_, 1) := by decide +kernel
set_option maxRecDepth 20000 in
theorem ggX10_rankBy_X10_rankOfDigits : GoodIn wsX10_rankBy wsX10_rankOfDigits := goodIn_r _ [8, 3, 9, 10, 7, 11, 12, 13, 14, 15, 16, 17, 18, 19, 20, 21, 22, 23, 24, 25, 26, 27, 28, 29, 30, 31, 32, 33, 34, 35, 36, 37, 38, 39, 40, 41, 42, 43, 44, 45] (by decide +kernel) (by decide +kernel)
set_option maxRecDepth 20000 in
theorem gX10_rankBy_X10_rankOfDigits : GoodIn wsX10_rankBy (wsV RX10 240 RX10 yX10_rankOfDigits wsX10_rankOfDigits) := goodIn_app (goodIn_of _ (by decide +kernel)) ggX10_rankBy_X10_rankOfDigits
theorem dX10_rankBy_0 : decode cX10_rankBy 0 = .ok (.aload_n 0, 1) := by decide +kernel
theorem dX10_rankBy_1 : decode cX10_rankBy 1 = .ok (.getfield 58, 3) := by decide +kernel
theorem dX10_rankBy_4 : decode cX10_rankBy 4 = .ok (.iload_n 1, 1) := by decide +kernel
theorem dX10_rankBy_5 : decode cX10_rankBy 5 = .ok (.iaload, 1) := by decide +kernel
theorem dX10_rankBy_6 : decode cX10_rankBy 6 = .ok (.istore_n 2, 1) := by decide +kernel
theorem dX10_rankBy_7 : decode cX10_rankBy 7 = .ok (.aload_n 0, 1) := by decide +kernel
theorem dX10_rankBy_8 : decode cX10_rankBy 8 = .ok (.getfield 61, 3) := by decide +kernel
theorem dX10_rankBy_11 : decode cX10_rankBy 11 = .ok (.iload_n 1, 1) := by decide +kernel
theorem dX10_rankBy_12 : decode cX10_rankBy 12 = .ok (.iaload, 1) := by decide +kernel
theorem dX10_rankBy_13 : decode cX10_rankBy 13 = .ok (.istore_n 3, 1) := by decide +kernel
theorem dX10_rankBy_14 : decode cX10_rankBy 14 = .ok (.aload_n 0, 1) := by decide +kernel
theorem dX10_rankBy_15 : decode cX10_rankBy 15 = .ok (.getfield 31, 3) := by decide +kernel
theorem dX10_rankBy_18 : decode cX10_rankBy 18 = .ok (.iload_n 2, 1) := by decide +kernel
theorem dX10_rankBy_19 : decode cX10_rankBy 19 = .ok (.iaload, 1) := by decide +kernel
theorem dX10_rankBy_20 : decode cX10_rankBy 20 = .ok (.istore 4, 2) := by decide +kernel
theorem dX10_rankBy_22 : decode cX10_rankBy 22 = .ok (.aload_n 0, 1) := by decide +kernel
theorem dX10_rankBy_23 : decode cX10_rankBy 23 = .ok (.getfield 31, 3) := by decide +kernel
theorem dX10_rankBy_26 : decode cX10_rankBy 26 = .ok (.iload_n 2, 1) := by decide +kernel
theorem dX10_rankBy_27 : decode cX10_rankBy 27 = .ok (.aload_n 0, 1) := by decide +kernel
theorem dX10_rankBy_28 : decode cX10_rankBy 28 = .ok (.getfield 31, 3) := by decide +kernel
theorem dX10_rankBy_31 : decode cX10_rankBy 31 = .ok (.iload_n 3, 1) := by decide +kernel
theorem dX10_rankBy_32 : decode cX10_rankBy 32 = .ok (.iaload, 1) := by decide +kernel
theorem dX10_rankBy_33 : decode cX10_rankBy 33 = .ok (.iastore, 1) := by decide +kernel
theorem dX10_rankBy_34 : decode cX10_rankBy 34 = .ok (.aload_n 0, 1) := by decide +kernel
theorem dX10_rankBy_35 : decode cX10_rankBy 35 = .ok (.getfield 31, 3) := by decide +kernel
theorem dX10_rankBy_38 : decode cX10_rankBy 38 = .ok (.iload_n 3, 1) := by decide +kernel
theorem dX10_rankBy_39 : decode cX10_rankBy 39 = .ok (.iload 4, 2) := by decide +kernel
theorem dX10_rankBy_41 : decode cX10_rankBy 41 = .ok (.iastore, 1) := by decide +kernel
theorem dX10_rankBy_42 : decode cX10_rankBy 42 = .ok (.aload_n 0, 1) := by decide +kernel
theorem dX10_rankBy_43 : decode cX10_rankBy 43 = .ok (.invokevirtual 240, 3) := by decide +kernel
theorem dX10_rankBy_46 : decode cX10_rankBy 46 = .ok (.istore 5, 2) := by decide +kernel
theorem dX10_rankBy_48 : decode cX10_rankBy 48 = .ok (.aload_n 0, 1) := by decide +kernel
theorem dX10_rankBy_49 : decode cX10_rankBy 49 = .ok (.getfield 31, 3) := by decide +kernel
theorem dX10_rankBy_52 : decode cX10_rankBy 52 = .ok (.iload_n 3, 1) := by decide +kernel
theorem dX10_rankBy_53 : decode cX10_rankBy 53 = .ok (.aload_n 0, 1) := by decide +kernel
theorem dX10_rankBy_54 : decode cX10_rankBy 54 = .ok (.getfield 31, 3) := by decide +kernel
theorem dX10_rankBy_57 : decode cX10_rankBy 57 = .ok (.iload_n 2, 1) := by decide +kernel
theorem dX10_rankBy_58 : decode cX10_rankBy 58 = .ok (.iaload, 1) := by decide +kernel
theorem dX10_rankBy_59 : decode cX10_rankBy 59 = .ok (.iastore, 1) := by decide +kernel
theorem dX10_rankBy_60 : decode cX10_rankBy 60 = .ok (.aload_n 0, 1) := by decide +kernel
theorem dX10_rankBy_61 : decode cX10_rankBy 61 = .ok (.getfield 31, 3) := by decide +kernel
theorem dX10_rankBy_64 : decode cX10_rankBy 64 = .ok (.iload_n 2, 1) := by decide +kernel
theorem dX10_rankBy_65 : decode cX10_rankBy 65 = .ok (.iload 4, 2) := by decide +kernel
theorem dX10_rankBy_67 : decode cX10_rankBy 67 = .ok (.iastore, 1) := by decide +kernel
theorem dX10_rankBy_68 : decode cX10_rankBy 68 = .ok (.iload 5, 2) := by decide +kernel
theorem dX10_rankBy_70 : decode cX10_rankBy 70 = .ok (.ireturn, 1) := by decide +kernel
set_option maxRecDepth 20000 in
theorem ggX10_nextOnes_X10_layDigits : GoodIn wsX10_nextOnes wsX10_layDigits := goodIn_r _ [6, 7, 8, 9, 5, 10, 11, 12, 13, 14, 15, 16, 27, 28, 29, 30, 31, 32, 33, 34, 35, 36, 37, 38, 39, 40, 41, 42, 43, 44, 45, 46, 47, 48, 49, 50, 51, 52, 53, 54, 55, 56, 57, 58, 59, 60] (by decide +kernel) (by decide +kernel)
set_option maxRecDepth 20000 in
theorem gX10_nextOnes_X10_layDigits : GoodIn wsX10_nextOnes (wsV RX10 245 RX10 yX10_layDigits wsX10_layDigits) := goodIn_app (goodIn_of _ (by decide +kernel)) ggX10_nextOnes_X10_layDigits
set_option maxRecDepth 20000 in
theorem ggX10_nextOnes_X10_has : GoodIn wsX10_nextOnes wsX10_has := goodIn_r _ [16] (by decide +kernel) (by decide +kernel)
set_option maxRecDepth 20000 in
theorem gX10_nextOnes_X10_has : GoodIn wsX10_nextOnes (va_wsS RX10 148 yX10_has wsX10_has) := goodIn_app (goodIn_of _ (by decide +kernel)) ggX10_nextOnes_X10_has
set_option maxRecDepth 20000 in
theorem ggX10_nextOnes_X10_rankBy : GoodIn wsX10_nextOnes wsX10_rankBy := goodIn_r _ [20, 21, 22, 7, 23, 24, 25, 5, 26, 8, 9, 10, 27, 28, 29, 30, 31, 32, 33, 34, 35, 36, 37, 38, 39, 40, 41, 42, 43, 44, 45, 46, 47, 48, 49, 50, 51, 52, 53, 54, 55, 56, 57, 58, 59, 60] (by decide +kernel) (by decide +kernel)
set_option maxRecDepth 20000 in
theorem gX10_nextOnes_X10_rankBy : GoodIn wsX10_nextOnes (wsV RX10 248 RX10 yX10_rankBy wsX10_rankBy) := goodIn_app (goodIn_of _ (by decide +kernel)) ggX10_nextOnes_X10_rankBy
theorem dX10_nextOnes_0 : decode cX10_nextOnes 0 = .ok (.iconst 0, 1) := by decide +kernel
theorem dX10_nextOnes_1 : decode cX10_nextOnes 1 = .ok (.istore 4, 2) := by decide +kernel
theorem dX10_nextOnes_3 : decode cX10_nextOnes 3 = .ok (.aload_n 0, 1) := by decide +kernel
theorem dX10_nextOnes_4 : decode cX10_nextOnes 4 = .ok (.iload_n 1, 1) := by decide +kernel
theorem dX10_nextOnes_5 : decode cX10_nextOnes 5 = .ok (.invokevirtual 245, 3) := by decide +kernel
theorem dX10_nextOnes_8 : decode cX10_nextOnes 8 = .ok (.iconst 0, 1) := by decide +kernel
theorem dX10_nextOnes_9 : decode cX10_nextOnes 9 = .ok (.istore 5, 2) := by decide +kernel
theorem dX10_nextOnes_11 : decode cX10_nextOnes 11 = .ok (.iload 5, 2) := by decide +kernel
theorem dX10_nextOnes_13 : decode cX10_nextOnes 13 = .ok (.bipush 15, 2) := by decide +kernel
theorem dX10_nextOnes_15 : decode cX10_nextOnes 15 = .ok (.if_icmp .ge 53, 3) := by decide +kernel
theorem dX10_nextOnes_18 : decode cX10_nextOnes 18 = .ok (.iload_n 2, 1) := by decide +kernel
theorem dX10_nextOnes_19 : decode cX10_nextOnes 19 = .ok (.iload 5, 2) := by decide +kernel
theorem dX10_nextOnes_21 : decode cX10_nextOnes 21 = .ok (.invokestatic 148, 3) := by decide +kernel
theorem dX10_nextOnes_24 : decode cX10_nextOnes 24 = .ok (.ifCond .eq 12, 3) := by decide +kernel
theorem dX10_nextOnes_27 : decode cX10_nextOnes 27 = .ok (.aload_n 0, 1) := by decide +kernel
theorem dX10_nextOnes_28 : decode cX10_nextOnes 28 = .ok (.iload 5, 2) := by decide +kernel
theorem dX10_nextOnes_30 : decode cX10_nextOnes 30 = .ok (.invokevirtual 248, 3) := by decide +kernel
theorem dX10_nextOnes_33 : decode cX10_nextOnes 33 = .ok (.goto 4, 3) := by decide +kernel
theorem dX10_nextOnes_36 : decode cX10_nextOnes 36 = .ok (.iload_n 1, 1) := by decide +kernel
theorem dX10_nextOnes_37 : decode cX10_nextOnes 37 = .ok (.istore 6, 2) := by decide +kernel
theorem dX10_nextOnes_39 : decode cX10_nextOnes 39 = .ok (.aload_n 0, 1) := by decide +kernel
theorem dX10_nextOnes_40 : decode cX10_nextOnes 40 = .ok (.getfield 55, 3) := by decide +kernel
theorem dX10_nextOnes_43 : decode cX10_nextOnes 43 = .ok (.iload 6, 2) := by decide +kernel
theorem dX10_nextOnes_45 : decode cX10_nextOnes 45 = .ok (.iaload, 1) := by decide +kernel
theorem dX10_nextOnes_46 : decode cX10_nextOnes 46 = .ok (.ifCond .ge 16, 3) := by decide +kernel
theorem dX10_nextOnes_49 : decode cX10_nextOnes 49 = .ok (.aload_n 0, 1) := by decide +kernel
theorem dX10_nextOnes_50 : decode cX10_nextOnes 50 = .ok (.getfield 55, 3) := by decide +kernel
theorem dX10_nextOnes_53 : decode cX10_nextOnes 53 = .ok (.iload 6, 2) := by decide +kernel
theorem dX10_nextOnes_55 : decode cX10_nextOnes 55 = .ok (.iload_n 3, 1) := by decide +kernel
theorem dX10_nextOnes_56 : decode cX10_nextOnes 56 = .ok (.iconst 1, 1) := by decide +kernel
theorem dX10_nextOnes_57 : decode cX10_nextOnes 57 = .ok (.iadd, 1) := by decide +kernel
theorem dX10_nextOnes_58 : decode cX10_nextOnes 58 = .ok (.iastore, 1) := by decide +kernel
theorem dX10_nextOnes_59 : decode cX10_nextOnes 59 = .ok (.iinc 4 1, 3) := by decide +kernel
theorem dX10_nextOnes_62 : decode cX10_nextOnes 62 = .ok (.iinc 5 1, 3) := by decide +kernel
theorem dX10_nextOnes_65 : decode cX10_nextOnes 65 = .ok (.goto (-54), 3) := by decide +kernel
theorem dX10_nextOnes_68 : decode cX10_nextOnes 68 = .ok (.iload 4, 2) := by decide +kernel
theorem dX10_nextOnes_70 : decode cX10_nextOnes 70 = .ok (.ireturn, 1) := by decide +kernel
set_option maxRecDepth 20000 in
theorem ggX10_findFar_X10_findPairs : GoodIn wsX10_findFar wsX10_findPairs := goodIn_r _ [6, 7, 8, 35, 36, 37, 38, 39, 40, 41, 42, 43, 44, 45, 46, 47, 48, 49, 50, 51, 52, 53, 54, 55, 56, 57, 58, 59, 60, 61, 62, 63, 64, 65, 66, 67, 68] (by decide +kernel) (by decide +kernel)
set_option maxRecDepth 20000 in
theorem gX10_findFar_X10_findPairs : GoodIn wsX10_findFar (wsV RX10 251 RX10 yX10_findPairs wsX10_findPairs) := goodIn_app (goodIn_of _ (by decide +kernel)) ggX10_findFar_X10_findPairs
set_option maxRecDepth 20000 in
theorem ggX10_findFar_X10_nextOnes : GoodIn wsX10_findFar wsX10_nextOnes := goodIn_r _ [12, 1, 13, 14, 15, 5, 16, 17, 18, 19, 20, 21, 22, 23, 24, 25, 26, 27, 28, 29, 30, 7, 8, 31, 32, 33, 34, 35, 36, 37, 38, 39, 40, 41, 42, 43, 44, 45, 46, 47, 48, 49, 50, 51, 52, 53, 54, 55, 56, 57, 58, 59, 60, 61, 62, 63, 64, 65, 66, 67, 68] (by decide +kernel) (by decide +kernel)
set_option maxRecDepth 20000 in
theorem gX10_findFar_X10_nextOnes : GoodIn wsX10_findFar (wsV RX10 254 RX10 yX10_nextOnes wsX10_nextOnes) := goodIn_app (goodIn_of _ (by decide +kernel)) ggX10_findFar_X10_nextOnes
theorem dX10_findFar_0 : decode cX10_findFar 0 = .ok (.aload_n 0, 1) := by decide +kernel
theorem dX10_findFar_1 : decode cX10_findFar 1 = .ok (.invokevirtual 251, 3) := by decide +kernel
theorem dX10_findFar_4 : decode cX10_findFar 4 = .ok (.iconst 0, 1) := by decide +kernel
theorem dX10_findFar_5 : decode cX10_findFar 5 = .ok (.istore_n 3, 1) := by decide +kernel
theorem dX10_findFar_6 : decode cX10_findFar 6 = .ok (.iload_n 3, 1) := by decide +kernel
theorem dX10_findFar_7 : decode cX10_findFar 7 = .ok (.sipush 720, 3) := by decide +kernel
theorem dX10_findFar_10 : decode cX10_findFar 10 = .ok (.if_icmp .ge 26, 3) := by decide +kernel
theorem dX10_findFar_13 : decode cX10_findFar 13 = .ok (.aload_n 0, 1) := by decide +kernel
theorem dX10_findFar_14 : decode cX10_findFar 14 = .ok (.getfield 55, 3) := by decide +kernel
theorem dX10_findFar_17 : decode cX10_findFar 17 = .ok (.iload_n 3, 1) := by decide +kernel
theorem dX10_findFar_18 : decode cX10_findFar 18 = .ok (.iload_n 3, 1) := by decide +kernel
theorem dX10_findFar_19 : decode cX10_findFar 19 = .ok (.iload_n 1, 1) := by decide +kernel
theorem dX10_findFar_20 : decode cX10_findFar 20 = .ok (.if_icmp .ne 7, 3) := by decide +kernel
theorem dX10_findFar_23 : decode cX10_findFar 23 = .ok (.iconst 0, 1) := by decide +kernel
theorem dX10_findFar_24 : decode cX10_findFar 24 = .ok (.goto 5, 3) := by decide +kernel
theorem dX10_findFar_27 : decode cX10_findFar 27 = .ok (.bipush (-6), 2) := by decide +kernel
theorem dX10_findFar_29 : decode cX10_findFar 29 = .ok (.iastore, 1) := by decide +kernel
theorem dX10_findFar_30 : decode cX10_findFar 30 = .ok (.iinc 3 1, 3) := by decide +kernel
theorem dX10_findFar_33 : decode cX10_findFar 33 = .ok (.goto (-27), 3) := by decide +kernel
theorem dX10_findFar_36 : decode cX10_findFar 36 = .ok (.iconst 1, 1) := by decide +kernel
theorem dX10_findFar_37 : decode cX10_findFar 37 = .ok (.istore_n 3, 1) := by decide +kernel
theorem dX10_findFar_38 : decode cX10_findFar 38 = .ok (.iconst 0, 1) := by decide +kernel
theorem dX10_findFar_39 : decode cX10_findFar 39 = .ok (.istore 4, 2) := by decide +kernel
theorem dX10_findFar_41 : decode cX10_findFar 41 = .ok (.iload_n 3, 1) := by decide +kernel
theorem dX10_findFar_42 : decode cX10_findFar 42 = .ok (.ifCond .le 56, 3) := by decide +kernel
theorem dX10_findFar_45 : decode cX10_findFar 45 = .ok (.iconst 0, 1) := by decide +kernel
theorem dX10_findFar_46 : decode cX10_findFar 46 = .ok (.istore_n 3, 1) := by decide +kernel
theorem dX10_findFar_47 : decode cX10_findFar 47 = .ok (.iconst 0, 1) := by decide +kernel
theorem dX10_findFar_48 : decode cX10_findFar 48 = .ok (.istore 5, 2) := by decide +kernel
theorem dX10_findFar_50 : decode cX10_findFar 50 = .ok (.iload 5, 2) := by decide +kernel
theorem dX10_findFar_52 : decode cX10_findFar 52 = .ok (.sipush 720, 3) := by decide +kernel
theorem dX10_findFar_55 : decode cX10_findFar 55 = .ok (.if_icmp .ge 37, 3) := by decide +kernel
theorem dX10_findFar_58 : decode cX10_findFar 58 = .ok (.iload_n 3, 1) := by decide +kernel
theorem dX10_findFar_59 : decode cX10_findFar 59 = .ok (.aload_n 0, 1) := by decide +kernel
theorem dX10_findFar_60 : decode cX10_findFar 60 = .ok (.getfield 55, 3) := by decide +kernel
theorem dX10_findFar_63 : decode cX10_findFar 63 = .ok (.iload 5, 2) := by decide +kernel
theorem dX10_findFar_65 : decode cX10_findFar 65 = .ok (.iaload, 1) := by decide +kernel
theorem dX10_findFar_66 : decode cX10_findFar 66 = .ok (.iload 4, 2) := by decide +kernel
theorem dX10_findFar_68 : decode cX10_findFar 68 = .ok (.if_icmp .ne 15, 3) := by decide +kernel
theorem dX10_findFar_71 : decode cX10_findFar 71 = .ok (.aload_n 0, 1) := by decide +kernel
theorem dX10_findFar_72 : decode cX10_findFar 72 = .ok (.iload 5, 2) := by decide +kernel
theorem dX10_findFar_74 : decode cX10_findFar 74 = .ok (.iload_n 2, 1) := by decide +kernel
theorem dX10_findFar_75 : decode cX10_findFar 75 = .ok (.iload 4, 2) := by decide +kernel
theorem dX10_findFar_77 : decode cX10_findFar 77 = .ok (.invokevirtual 254, 3) := by decide +kernel
theorem dX10_findFar_80 : decode cX10_findFar 80 = .ok (.goto 4, 3) := by decide +kernel
theorem dX10_findFar_83 : decode cX10_findFar 83 = .ok (.iconst 0, 1) := by decide +kernel
theorem dX10_findFar_84 : decode cX10_findFar 84 = .ok (.iadd, 1) := by decide +kernel
theorem dX10_findFar_85 : decode cX10_findFar 85 = .ok (.istore_n 3, 1) := by decide +kernel
theorem dX10_findFar_86 : decode cX10_findFar 86 = .ok (.iinc 5 1, 3) := by decide +kernel
theorem dX10_findFar_89 : decode cX10_findFar 89 = .ok (.goto (-39), 3) := by decide +kernel
theorem dX10_findFar_92 : decode cX10_findFar 92 = .ok (.iinc 4 1, 3) := by decide +kernel
theorem dX10_findFar_95 : decode cX10_findFar 95 = .ok (.goto (-54), 3) := by decide +kernel
theorem dX10_findFar_98 : decode cX10_findFar 98 = .ok (.return_, 1) := by decide +kernel
theorem dX10_layNow_0 : decode cX10_layNow 0 = .ok (.iconst 0, 1) := by decide +kernel
theorem dX10_layNow_1 : decode cX10_layNow 1 = .ok (.istore_n 1, 1) := by decide +kernel
theorem dX10_layNow_2 : decode cX10_layNow 2 = .ok (.iload_n 1, 1) := by decide +kernel
theorem dX10_layNow_3 : decode cX10_layNow 3 = .ok (.bipush 6, 2) := by decide +kernel
theorem dX10_layNow_5 : decode cX10_layNow 5 = .ok (.if_icmp .ge 21, 3) := by decide +kernel
theorem dX10_layNow_8 : decode cX10_layNow 8 = .ok (.aload_n 0, 1) := by decide +kernel
theorem dX10_layNow_9 : decode cX10_layNow 9 = .ok (.getfield 31, 3) := by decide +kernel
theorem dX10_layNow_12 : decode cX10_layNow 12 = .ok (.iload_n 1, 1) := by decide +kernel
theorem dX10_layNow_13 : decode cX10_layNow 13 = .ok (.aload_n 0, 1) := by decide +kernel
theorem dX10_layNow_14 : decode cX10_layNow 14 = .ok (.getfield 7, 3) := by decide +kernel
theorem dX10_layNow_17 : decode cX10_layNow 17 = .ok (.iload_n 1, 1) := by decide +kernel
theorem dX10_layNow_18 : decode cX10_layNow 18 = .ok (.iaload, 1) := by decide +kernel
theorem dX10_layNow_19 : decode cX10_layNow 19 = .ok (.iastore, 1) := by decide +kernel
theorem dX10_layNow_20 : decode cX10_layNow 20 = .ok (.iinc 1 1, 3) := by decide +kernel
theorem dX10_layNow_23 : decode cX10_layNow 23 = .ok (.goto (-21), 3) := by decide +kernel
theorem dX10_layNow_26 : decode cX10_layNow 26 = .ok (.return_, 1) := by decide +kernel
set_option maxRecDepth 20000 in
theorem ggX10_by_X10_readRow : GoodIn wsX10_by wsX10_readRow := goodIn_r _ [7, 8, 52, 53, 54, 55, 56, 57, 58, 59, 60, 61, 62, 63, 64, 65, 66, 67, 68, 69, 70, 71, 72, 73, 74, 75, 76, 77, 78, 79, 80, 81, 82, 83, 84, 85] (by decide +kernel) (by decide +kernel)
set_option maxRecDepth 20000 in
theorem gX10_by_X10_readRow : GoodIn wsX10_by (wsV RX10 87 RX10 yX10_readRow wsX10_readRow) := goodIn_app (goodIn_of _ (by decide +kernel)) ggX10_by_X10_readRow
set_option maxRecDepth 20000 in
theorem ggX10_by_X10_in : GoodIn wsX10_by wsX10_in := goodIn_r _ [11] (by decide +kernel) (by decide +kernel)
set_option maxRecDepth 20000 in
theorem gX10_by_X10_in : GoodIn wsX10_by (va_wsS RX10 79 yX10_in wsX10_in) := goodIn_app (goodIn_of _ (by decide +kernel)) ggX10_by_X10_in
set_option maxRecDepth 20000 in
theorem ggX10_by_X10_rankOfDigits : GoodIn wsX10_by wsX10_rankOfDigits := goodIn_r _ [15, 8, 16, 17, 6, 18, 52, 53, 54, 55, 56, 57, 58, 59, 60, 61, 62, 63, 64, 65, 66, 67, 68, 69, 70, 71, 72, 73, 74, 75, 76, 77, 78, 79, 80, 81, 82, 83, 84, 85] (by decide +kernel) (by decide +kernel)
set_option maxRecDepth 20000 in
theorem gX10_by_X10_rankOfDigits : GoodIn wsX10_by (wsV RX10 240 RX10 yX10_rankOfDigits wsX10_rankOfDigits) := goodIn_app (goodIn_of _ (by decide +kernel)) ggX10_by_X10_rankOfDigits
set_option maxRecDepth 20000 in
theorem ggX10_by_X10_findFar : GoodIn wsX10_by wsX10_findFar := goodIn_r _ [22, 2, 23, 24, 25, 6, 26, 27, 28, 29, 30, 31, 32, 33, 34, 35, 36, 8, 16, 17, 18, 37, 38, 39, 40, 41, 42, 43, 44, 45, 46, 12, 13, 14, 15, 52, 53, 54, 55, 56, 57, 58, 59, 60, 61, 62, 63, 64, 65, 66, 67, 68, 69, 70, 71, 72, 73, 74, 75, 76, 77, 78, 79, 80, 81, 82, 83, 84, 85] (by decide +kernel) (by decide +kernel)
set_option maxRecDepth 20000 in
theorem gX10_by_X10_findFar : GoodIn wsX10_by (wsV RX10 259 RX10 yX10_findFar wsX10_findFar) := goodIn_app (goodIn_of _ (by decide +kernel)) ggX10_by_X10_findFar
set_option maxRecDepth 20000 in
theorem ggX10_by_X10_layNow : GoodIn wsX10_by wsX10_layNow := goodIn_r _ [50, 8, 51, 52, 53, 54, 55, 56, 57, 58, 59, 60, 61, 62, 63, 64, 65, 66, 67, 68, 69, 70, 71, 72, 73, 74, 75, 76, 77, 78, 79, 80, 81, 82, 83, 84, 85] (by decide +kernel) (by decide +kernel)
set_option maxRecDepth 20000 in
theorem gX10_by_X10_layNow : GoodIn wsX10_by (wsV RX10 263 RX10 yX10_layNow wsX10_layNow) := goodIn_app (goodIn_of _ (by decide +kernel)) ggX10_by_X10_layNow
set_option maxRecDepth 20000 in
theorem ggX10_by_X10_has : GoodIn wsX10_by wsX10_has := goodIn_r _ [42] (by decide +kernel) (by decide +kernel)
set_option maxRecDepth 20000 in
theorem gX10_by_X10_has : GoodIn wsX10_by (va_wsS RX10 148 yX10_has wsX10_has) := goodIn_app (goodIn_of _ (by decide +kernel)) ggX10_by_X10_has
set_option maxRecDepth 20000 in
theorem ggX10_by_X10_rankBy : GoodIn wsX10_by wsX10_rankBy := goodIn_r _ [46, 27, 28, 8, 12, 13, 14, 6, 15, 16, 17, 18, 52, 53, 54, 55, 56, 57, 58, 59, 60, 61, 62, 63, 64, 65, 66, 67, 68, 69, 70, 71, 72, 73, 74, 75, 76, 77, 78, 79, 80, 81, 82, 83, 84, 85] (by decide +kernel) (by decide +kernel)
set_option maxRecDepth 20000 in
theorem gX10_by_X10_rankBy : GoodIn wsX10_by (wsV RX10 248 RX10 yX10_rankBy wsX10_rankBy) := goodIn_app (goodIn_of _ (by decide +kernel)) ggX10_by_X10_rankBy
theorem dX10_by_0 : decode cX10_by 0 = .ok (.aload_n 0, 1) := by decide +kernel
theorem dX10_by_1 : decode cX10_by 1 = .ok (.iload_n 1, 1) := by decide +kernel
theorem dX10_by_2 : decode cX10_by 2 = .ok (.invokevirtual 87, 3) := by decide +kernel
theorem dX10_by_5 : decode cX10_by 5 = .ok (.ifCond .eq 25, 3) := by decide +kernel
theorem dX10_by_8 : decode cX10_by 8 = .ok (.iload_n 2, 1) := by decide +kernel
theorem dX10_by_9 : decode cX10_by 9 = .ok (.i2l, 1) := by decide +kernel
theorem dX10_by_10 : decode cX10_by 10 = .ok (.lconst 0, 1) := by decide +kernel
theorem dX10_by_11 : decode cX10_by 11 = .ok (.ldc2_w 257, 3) := by decide +kernel
theorem dX10_by_14 : decode cX10_by 14 = .ok (.invokestatic 79, 3) := by decide +kernel
theorem dX10_by_17 : decode cX10_by 17 = .ok (.ifCond .eq 13, 3) := by decide +kernel
theorem dX10_by_20 : decode cX10_by 20 = .ok (.iload_n 3, 1) := by decide +kernel
theorem dX10_by_21 : decode cX10_by 21 = .ok (.i2l, 1) := by decide +kernel
theorem dX10_by_22 : decode cX10_by 22 = .ok (.lconst 0, 1) := by decide +kernel
theorem dX10_by_23 : decode cX10_by 23 = .ok (.lconst 1, 1) := by decide +kernel
theorem dX10_by_24 : decode cX10_by 24 = .ok (.invokestatic 79, 3) := by decide +kernel
theorem dX10_by_27 : decode cX10_by 27 = .ok (.ifCond .ne 6, 3) := by decide +kernel
theorem dX10_by_30 : decode cX10_by 30 = .ok (.bipush (-2), 2) := by decide +kernel
theorem dX10_by_32 : decode cX10_by 32 = .ok (.ireturn, 1) := by decide +kernel
theorem dX10_by_33 : decode cX10_by 33 = .ok (.aload_n 0, 1) := by decide +kernel
theorem dX10_by_34 : decode cX10_by 34 = .ok (.aload_n 0, 1) := by decide +kernel
theorem dX10_by_35 : decode cX10_by 35 = .ok (.invokevirtual 240, 3) := by decide +kernel
theorem dX10_by_38 : decode cX10_by 38 = .ok (.iload_n 2, 1) := by decide +kernel
theorem dX10_by_39 : decode cX10_by 39 = .ok (.invokevirtual 259, 3) := by decide +kernel
theorem dX10_by_42 : decode cX10_by 42 = .ok (.aload_n 0, 1) := by decide +kernel
theorem dX10_by_43 : decode cX10_by 43 = .ok (.invokevirtual 263, 3) := by decide +kernel
theorem dX10_by_46 : decode cX10_by 46 = .ok (.aload_n 0, 1) := by decide +kernel
theorem dX10_by_47 : decode cX10_by 47 = .ok (.getfield 55, 3) := by decide +kernel
theorem dX10_by_50 : decode cX10_by 50 = .ok (.aload_n 0, 1) := by decide +kernel
theorem dX10_by_51 : decode cX10_by 51 = .ok (.invokevirtual 240, 3) := by decide +kernel
theorem dX10_by_54 : decode cX10_by 54 = .ok (.iaload, 1) := by decide +kernel
theorem dX10_by_55 : decode cX10_by 55 = .ok (.istore 4, 2) := by decide +kernel
theorem dX10_by_57 : decode cX10_by 57 = .ok (.iload_n 3, 1) := by decide +kernel
theorem dX10_by_58 : decode cX10_by 58 = .ok (.ifCond .ne 6, 3) := by decide +kernel
theorem dX10_by_61 : decode cX10_by 61 = .ok (.iload 4, 2) := by decide +kernel
theorem dX10_by_63 : decode cX10_by 63 = .ok (.ireturn, 1) := by decide +kernel
theorem dX10_by_64 : decode cX10_by 64 = .ok (.bipush (-6), 2) := by decide +kernel
theorem dX10_by_66 : decode cX10_by 66 = .ok (.istore 5, 2) := by decide +kernel
theorem dX10_by_68 : decode cX10_by 68 = .ok (.bipush 14, 2) := by decide +kernel
theorem dX10_by_70 : decode cX10_by 70 = .ok (.istore 6, 2) := by decide +kernel
theorem dX10_by_72 : decode cX10_by 72 = .ok (.iload 6, 2) := by decide +kernel
theorem dX10_by_74 : decode cX10_by 74 = .ok (.ifCond .lt 62, 3) := by decide +kernel
theorem dX10_by_77 : decode cX10_by 77 = .ok (.iload 4, 2) := by decide +kernel
theorem dX10_by_79 : decode cX10_by 79 = .ok (.ifCond .le 34, 3) := by decide +kernel
theorem dX10_by_82 : decode cX10_by 82 = .ok (.iload_n 2, 1) := by decide +kernel
theorem dX10_by_83 : decode cX10_by 83 = .ok (.iload 6, 2) := by decide +kernel
theorem dX10_by_85 : decode cX10_by 85 = .ok (.invokestatic 148, 3) := by decide +kernel
theorem dX10_by_88 : decode cX10_by 88 = .ok (.ifCond .eq 25, 3) := by decide +kernel
theorem dX10_by_91 : decode cX10_by 91 = .ok (.aload_n 0, 1) := by decide +kernel
theorem dX10_by_92 : decode cX10_by 92 = .ok (.getfield 55, 3) := by decide +kernel
theorem dX10_by_95 : decode cX10_by 95 = .ok (.aload_n 0, 1) := by decide +kernel
theorem dX10_by_96 : decode cX10_by 96 = .ok (.iload 6, 2) := by decide +kernel
theorem dX10_by_98 : decode cX10_by 98 = .ok (.invokevirtual 248, 3) := by decide +kernel
theorem dX10_by_101 : decode cX10_by 101 = .ok (.iaload, 1) := by decide +kernel
theorem dX10_by_102 : decode cX10_by 102 = .ok (.iload 4, 2) := by decide +kernel
theorem dX10_by_104 : decode cX10_by 104 = .ok (.iconst 1, 1) := by decide +kernel
theorem dX10_by_105 : decode cX10_by 105 = .ok (.isub, 1) := by decide +kernel
theorem dX10_by_106 : decode cX10_by 106 = .ok (.if_icmp .ne 7, 3) := by decide +kernel
theorem dX10_by_109 : decode cX10_by 109 = .ok (.iconst 1, 1) := by decide +kernel
theorem dX10_by_110 : decode cX10_by 110 = .ok (.goto 4, 3) := by decide +kernel
theorem dX10_by_113 : decode cX10_by 113 = .ok (.iconst 0, 1) := by decide +kernel
theorem dX10_by_114 : decode cX10_by 114 = .ok (.istore 7, 2) := by decide +kernel
theorem dX10_by_116 : decode cX10_by 116 = .ok (.iload 7, 2) := by decide +kernel
theorem dX10_by_118 : decode cX10_by 118 = .ok (.ifCond .eq 8, 3) := by decide +kernel
theorem dX10_by_121 : decode cX10_by 121 = .ok (.iload 6, 2) := by decide +kernel
theorem dX10_by_123 : decode cX10_by 123 = .ok (.goto 5, 3) := by decide +kernel
theorem dX10_by_126 : decode cX10_by 126 = .ok (.iload 5, 2) := by decide +kernel
theorem dX10_by_128 : decode cX10_by 128 = .ok (.istore 5, 2) := by decide +kernel
theorem dX10_by_130 : decode cX10_by 130 = .ok (.iinc 6 (-1), 3) := by decide +kernel
theorem dX10_by_133 : decode cX10_by 133 = .ok (.goto (-61), 3) := by decide +kernel
theorem dX10_by_136 : decode cX10_by 136 = .ok (.iload 5, 2) := by decide +kernel
theorem dX10_by_138 : decode cX10_by 138 = .ok (.ireturn, 1) := by decide +kernel
set_option maxRecDepth 20000 in
theorem ggX10_isWeighing_X10_in : GoodIn wsX10_isWeighing wsX10_in := goodIn_r _ [5] (by decide +kernel) (by decide +kernel)
set_option maxRecDepth 20000 in
theorem gX10_isWeighing_X10_in : GoodIn wsX10_isWeighing (va_wsS RX10 79 yX10_in wsX10_in) := goodIn_app (goodIn_of _ (by decide +kernel)) ggX10_isWeighing_X10_in
set_option maxRecDepth 20000 in
theorem ggX10_isWeighing_X10_ones : GoodIn wsX10_isWeighing wsX10_ones := goodIn_r _ [8] (by decide +kernel) (by decide +kernel)
set_option maxRecDepth 20000 in
theorem gX10_isWeighing_X10_ones : GoodIn wsX10_isWeighing (va_wsS RX10 268 yX10_ones wsX10_ones) := goodIn_app (goodIn_of _ (by decide +kernel)) ggX10_isWeighing_X10_ones
theorem dX10_isWeighing_0 : decode cX10_isWeighing 0 = .ok (.iload_n 0, 1) := by decide +kernel
theorem dX10_isWeighing_1 : decode cX10_isWeighing 1 = .ok (.i2l, 1) := by decide +kernel
theorem dX10_isWeighing_2 : decode cX10_isWeighing 2 = .ok (.lconst 1, 1) := by decide +kernel
theorem dX10_isWeighing_3 : decode cX10_isWeighing 3 = .ok (.ldc2_w 266, 3) := by decide +kernel
theorem dX10_isWeighing_6 : decode cX10_isWeighing 6 = .ok (.invokestatic 79, 3) := by decide +kernel
theorem dX10_isWeighing_9 : decode cX10_isWeighing 9 = .ok (.ifCond .eq 36, 3) := by decide +kernel
theorem dX10_isWeighing_12 : decode cX10_isWeighing 12 = .ok (.iload_n 1, 1) := by decide +kernel
theorem dX10_isWeighing_13 : decode cX10_isWeighing 13 = .ok (.i2l, 1) := by decide +kernel
theorem dX10_isWeighing_14 : decode cX10_isWeighing 14 = .ok (.lconst 1, 1) := by decide +kernel
theorem dX10_isWeighing_15 : decode cX10_isWeighing 15 = .ok (.ldc2_w 266, 3) := by decide +kernel
theorem dX10_isWeighing_18 : decode cX10_isWeighing 18 = .ok (.invokestatic 79, 3) := by decide +kernel
theorem dX10_isWeighing_21 : decode cX10_isWeighing 21 = .ok (.ifCond .eq 24, 3) := by decide +kernel
theorem dX10_isWeighing_24 : decode cX10_isWeighing 24 = .ok (.iload_n 0, 1) := by decide +kernel
theorem dX10_isWeighing_25 : decode cX10_isWeighing 25 = .ok (.iload_n 1, 1) := by decide +kernel
theorem dX10_isWeighing_26 : decode cX10_isWeighing 26 = .ok (.iand, 1) := by decide +kernel
theorem dX10_isWeighing_27 : decode cX10_isWeighing 27 = .ok (.ifCond .ne 18, 3) := by decide +kernel
theorem dX10_isWeighing_30 : decode cX10_isWeighing 30 = .ok (.iload_n 0, 1) := by decide +kernel
theorem dX10_isWeighing_31 : decode cX10_isWeighing 31 = .ok (.invokestatic 268, 3) := by decide +kernel
theorem dX10_isWeighing_34 : decode cX10_isWeighing 34 = .ok (.iload_n 1, 1) := by decide +kernel
theorem dX10_isWeighing_35 : decode cX10_isWeighing 35 = .ok (.invokestatic 268, 3) := by decide +kernel
theorem dX10_isWeighing_38 : decode cX10_isWeighing 38 = .ok (.if_icmp .ne 7, 3) := by decide +kernel
theorem dX10_isWeighing_41 : decode cX10_isWeighing 41 = .ok (.iconst 1, 1) := by decide +kernel
theorem dX10_isWeighing_42 : decode cX10_isWeighing 42 = .ok (.goto 4, 3) := by decide +kernel
theorem dX10_isWeighing_45 : decode cX10_isWeighing 45 = .ok (.iconst 0, 1) := by decide +kernel
theorem dX10_isWeighing_46 : decode cX10_isWeighing 46 = .ok (.ireturn, 1) := by decide +kernel
set_option maxRecDepth 20000 in
theorem ggX10_weigh_X10_isWeighing : GoodIn wsX10_weigh wsX10_isWeighing := goodIn_r _ [9, 10, 11, 12, 8, 13, 14, 15, 16] (by decide +kernel) (by decide +kernel)
set_option maxRecDepth 20000 in
theorem gX10_weigh_X10_isWeighing : GoodIn wsX10_weigh (va_wsS RX10 271 yX10_isWeighing wsX10_isWeighing) := goodIn_app (goodIn_of _ (by decide +kernel)) ggX10_weigh_X10_isWeighing
set_option maxRecDepth 20000 in
theorem ggX10_weigh_X10_in : GoodIn wsX10_weigh wsX10_in := goodIn_r _ [13] (by decide +kernel) (by decide +kernel)
set_option maxRecDepth 20000 in
theorem gX10_weigh_X10_in : GoodIn wsX10_weigh (va_wsS RX10 79 yX10_in wsX10_in) := goodIn_app (goodIn_of _ (by decide +kernel)) ggX10_weigh_X10_in
theorem dX10_weigh_0 : decode cX10_weigh 0 = .ok (.iload_n 1, 1) := by decide +kernel
theorem dX10_weigh_1 : decode cX10_weigh 1 = .ok (.iload_n 2, 1) := by decide +kernel
theorem dX10_weigh_2 : decode cX10_weigh 2 = .ok (.invokestatic 271, 3) := by decide +kernel
theorem dX10_weigh_5 : decode cX10_weigh 5 = .ok (.ifCond .eq 15, 3) := by decide +kernel
theorem dX10_weigh_8 : decode cX10_weigh 8 = .ok (.iload_n 3, 1) := by decide +kernel
theorem dX10_weigh_9 : decode cX10_weigh 9 = .ok (.i2l, 1) := by decide +kernel
theorem dX10_weigh_10 : decode cX10_weigh 10 = .ok (.lconst 0, 1) := by decide +kernel
theorem dX10_weigh_11 : decode cX10_weigh 11 = .ok (.ldc2_w 217, 3) := by decide +kernel
theorem dX10_weigh_14 : decode cX10_weigh 14 = .ok (.invokestatic 79, 3) := by decide +kernel
theorem dX10_weigh_17 : decode cX10_weigh 17 = .ok (.ifCond .ne 6, 3) := by decide +kernel
theorem dX10_weigh_20 : decode cX10_weigh 20 = .ok (.bipush (-2), 2) := by decide +kernel
theorem dX10_weigh_22 : decode cX10_weigh 22 = .ok (.ireturn, 1) := by decide +kernel
theorem dX10_weigh_23 : decode cX10_weigh 23 = .ok (.aload_n 0, 1) := by decide +kernel
theorem dX10_weigh_24 : decode cX10_weigh 24 = .ok (.getfield 274, 3) := by decide +kernel
theorem dX10_weigh_27 : decode cX10_weigh 27 = .ok (.bipush 8, 2) := by decide +kernel
theorem dX10_weigh_29 : decode cX10_weigh 29 = .ok (.if_icmp .ne 6, 3) := by decide +kernel
theorem dX10_weigh_32 : decode cX10_weigh 32 = .ok (.bipush (-4), 2) := by decide +kernel
theorem dX10_weigh_34 : decode cX10_weigh 34 = .ok (.ireturn, 1) := by decide +kernel
theorem dX10_weigh_35 : decode cX10_weigh 35 = .ok (.aload_n 0, 1) := by decide +kernel
theorem dX10_weigh_36 : decode cX10_weigh 36 = .ok (.getfield 22, 3) := by decide +kernel
theorem dX10_weigh_39 : decode cX10_weigh 39 = .ok (.aload_n 0, 1) := by decide +kernel
theorem dX10_weigh_40 : decode cX10_weigh 40 = .ok (.getfield 274, 3) := by decide +kernel
theorem dX10_weigh_43 : decode cX10_weigh 43 = .ok (.iload_n 1, 1) := by decide +kernel
theorem dX10_weigh_44 : decode cX10_weigh 44 = .ok (.iastore, 1) := by decide +kernel
theorem dX10_weigh_45 : decode cX10_weigh 45 = .ok (.aload_n 0, 1) := by decide +kernel
theorem dX10_weigh_46 : decode cX10_weigh 46 = .ok (.getfield 25, 3) := by decide +kernel
theorem dX10_weigh_49 : decode cX10_weigh 49 = .ok (.aload_n 0, 1) := by decide +kernel
theorem dX10_weigh_50 : decode cX10_weigh 50 = .ok (.getfield 274, 3) := by decide +kernel
theorem dX10_weigh_53 : decode cX10_weigh 53 = .ok (.iload_n 2, 1) := by decide +kernel
theorem dX10_weigh_54 : decode cX10_weigh 54 = .ok (.iastore, 1) := by decide +kernel
theorem dX10_weigh_55 : decode cX10_weigh 55 = .ok (.aload_n 0, 1) := by decide +kernel
theorem dX10_weigh_56 : decode cX10_weigh 56 = .ok (.getfield 28, 3) := by decide +kernel
theorem dX10_weigh_59 : decode cX10_weigh 59 = .ok (.aload_n 0, 1) := by decide +kernel
theorem dX10_weigh_60 : decode cX10_weigh 60 = .ok (.getfield 274, 3) := by decide +kernel
theorem dX10_weigh_63 : decode cX10_weigh 63 = .ok (.iload_n 3, 1) := by decide +kernel
theorem dX10_weigh_64 : decode cX10_weigh 64 = .ok (.iastore, 1) := by decide +kernel
theorem dX10_weigh_65 : decode cX10_weigh 65 = .ok (.aload_n 0, 1) := by decide +kernel
theorem dX10_weigh_66 : decode cX10_weigh 66 = .ok (.dup, 1) := by decide +kernel
theorem dX10_weigh_67 : decode cX10_weigh 67 = .ok (.getfield 274, 3) := by decide +kernel
theorem dX10_weigh_70 : decode cX10_weigh 70 = .ok (.iconst 1, 1) := by decide +kernel
theorem dX10_weigh_71 : decode cX10_weigh 71 = .ok (.iadd, 1) := by decide +kernel
theorem dX10_weigh_72 : decode cX10_weigh 72 = .ok (.putfield 274, 3) := by decide +kernel
theorem dX10_weigh_75 : decode cX10_weigh 75 = .ok (.aload_n 0, 1) := by decide +kernel
theorem dX10_weigh_76 : decode cX10_weigh 76 = .ok (.getfield 274, 3) := by decide +kernel
theorem dX10_weigh_79 : decode cX10_weigh 79 = .ok (.ireturn, 1) := by decide +kernel
theorem dX10_forget_0 : decode cX10_forget 0 = .ok (.aload_n 0, 1) := by decide +kernel
theorem dX10_forget_1 : decode cX10_forget 1 = .ok (.getfield 274, 3) := by decide +kernel
theorem dX10_forget_4 : decode cX10_forget 4 = .ok (.istore_n 1, 1) := by decide +kernel
theorem dX10_forget_5 : decode cX10_forget 5 = .ok (.aload_n 0, 1) := by decide +kernel
theorem dX10_forget_6 : decode cX10_forget 6 = .ok (.iconst 0, 1) := by decide +kernel

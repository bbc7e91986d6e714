set_option maxRecDepth 20000 in
theorem gX7_wrongWatchers_X7_peaPlace : GoodIn wsX7_wrongWatchers (wsV RX7 42 RX7 yX7_peaPlace wsX7_peaPlace) := goodIn_app (goodIn_of _ (by decide +kernel)) ggX7_wrongWatchers_X7_peaPlace
theorem dX7_wrongWatchers_0 : decode cX7_wrongWatchers 0 = .ok (.aload_n 0, 1) := by decide +kernel
theorem dX7_wrongWatchers_1 : decode cX7_wrongWatchers 1 = .ok (.invokevirtual 42, 3) := by decide +kernel
theorem dX7_wrongWatchers_4 : decode cX7_wrongWatchers 4 = .ok (.istore_n 1, 1) := by decide +kernel
theorem dX7_wrongWatchers_5 : decode cX7_wrongWatchers 5 = .ok (.iconst 0, 1) := by decide +kernel
theorem dX7_wrongWatchers_6 : decode cX7_wrongWatchers 6 = .ok (.istore_n 2, 1) := by decide +kernel
theorem dX7_wrongWatchers_7 : decode cX7_wrongWatchers 7 = .ok (.iconst 0, 1) := by decide +kernel
theorem dX7_wrongWatchers_8 : decode cX7_wrongWatchers 8 = .ok (.istore_n 3, 1) := by decide +kernel
theorem dX7_wrongWatchers_9 : decode cX7_wrongWatchers 9 = .ok (.iload_n 3, 1) := by decide +kernel
theorem dX7_wrongWatchers_10 : decode cX7_wrongWatchers 10 = .ok (.iconst 4, 1) := by decide +kernel
theorem dX7_wrongWatchers_11 : decode cX7_wrongWatchers 11 = .ok (.if_icmp .ge 34, 3) := by decide +kernel
theorem dX7_wrongWatchers_14 : decode cX7_wrongWatchers 14 = .ok (.iload_n 1, 1) := by decide +kernel
theorem dX7_wrongWatchers_15 : decode cX7_wrongWatchers 15 = .ok (.bipush (-6), 2) := by decide +kernel
theorem dX7_wrongWatchers_17 : decode cX7_wrongWatchers 17 = .ok (.if_icmp .eq 16, 3) := by decide +kernel
theorem dX7_wrongWatchers_20 : decode cX7_wrongWatchers 20 = .ok (.aload_n 0, 1) := by decide +kernel
theorem dX7_wrongWatchers_21 : decode cX7_wrongWatchers 21 = .ok (.getfield 31, 3) := by decide +kernel
theorem dX7_wrongWatchers_24 : decode cX7_wrongWatchers 24 = .ok (.iload_n 3, 1) := by decide +kernel
theorem dX7_wrongWatchers_25 : decode cX7_wrongWatchers 25 = .ok (.iaload, 1) := by decide +kernel
theorem dX7_wrongWatchers_26 : decode cX7_wrongWatchers 26 = .ok (.iload_n 1, 1) := by decide +kernel
theorem dX7_wrongWatchers_27 : decode cX7_wrongWatchers 27 = .ok (.ishr, 1) := by decide +kernel
theorem dX7_wrongWatchers_28 : decode cX7_wrongWatchers 28 = .ok (.iconst 1, 1) := by decide +kernel
theorem dX7_wrongWatchers_29 : decode cX7_wrongWatchers 29 = .ok (.iand, 1) := by decide +kernel
theorem dX7_wrongWatchers_30 : decode cX7_wrongWatchers 30 = .ok (.ifCond .ne 9, 3) := by decide +kernel
theorem dX7_wrongWatchers_33 : decode cX7_wrongWatchers 33 = .ok (.iload_n 2, 1) := by decide +kernel
theorem dX7_wrongWatchers_34 : decode cX7_wrongWatchers 34 = .ok (.iconst 1, 1) := by decide +kernel
theorem dX7_wrongWatchers_35 : decode cX7_wrongWatchers 35 = .ok (.iload_n 3, 1) := by decide +kernel
theorem dX7_wrongWatchers_36 : decode cX7_wrongWatchers 36 = .ok (.ishl, 1) := by decide +kernel
theorem dX7_wrongWatchers_37 : decode cX7_wrongWatchers 37 = .ok (.ior, 1) := by decide +kernel
theorem dX7_wrongWatchers_38 : decode cX7_wrongWatchers 38 = .ok (.istore_n 2, 1) := by decide +kernel
theorem dX7_wrongWatchers_39 : decode cX7_wrongWatchers 39 = .ok (.iinc 3 1, 3) := by decide +kernel
theorem dX7_wrongWatchers_42 : decode cX7_wrongWatchers 42 = .ok (.goto (-33), 3) := by decide +kernel
theorem dX7_wrongWatchers_45 : decode cX7_wrongWatchers 45 = .ok (.iload_n 2, 1) := by decide +kernel
theorem dX7_wrongWatchers_46 : decode cX7_wrongWatchers 46 = .ok (.ireturn, 1) := by decide +kernel
set_option maxRecDepth 20000 in
theorem ggX7_whyNot_X7_peaPlace : GoodIn wsX7_whyNot wsX7_peaPlace := goodIn_r _ [12, 4, 13, 14, 15, 16, 17, 31, 32, 33, 34, 35, 36] (by decide +kernel) (by decide +kernel)
set_option maxRecDepth 20000 in
theorem gX7_whyNot_X7_peaPlace : GoodIn wsX7_whyNot (wsV RX7 42 RX7 yX7_peaPlace wsX7_peaPlace) := goodIn_app (goodIn_of _ (by decide +kernel)) ggX7_whyNot_X7_peaPlace
set_option maxRecDepth 20000 in
theorem ggX7_whyNot_X7_coinOf : GoodIn wsX7_whyNot wsX7_coinOf := goodIn_r _ [21, 22, 23, 24, 25, 31, 32, 33, 34, 35, 36] (by decide +kernel) (by decide +kernel)
set_option maxRecDepth 20000 in
theorem gX7_whyNot_X7_coinOf : GoodIn wsX7_whyNot (wsV RX7 60 RX7 yX7_coinOf wsX7_coinOf) := goodIn_app (goodIn_of _ (by decide +kernel)) ggX7_whyNot_X7_coinOf
theorem dX7_whyNot_0 : decode cX7_whyNot 0 = .ok (.aload_n 1, 1) := by decide +kernel
theorem dX7_whyNot_1 : decode cX7_whyNot 1 = .ok (.getfield 46, 3) := by decide +kernel
theorem dX7_whyNot_4 : decode cX7_whyNot 4 = .ok (.tableswitch 114 0 4 #[36, 114, 53, 78, 99], 36) := by decide +kernel
theorem dX7_whyNot_40 : decode cX7_whyNot 40 = .ok (.aload_n 1, 1) := by decide +kernel
theorem dX7_whyNot_41 : decode cX7_whyNot 41 = .ok (.getfield 51, 3) := by decide +kernel
theorem dX7_whyNot_44 : decode cX7_whyNot 44 = .ok (.aload_n 1, 1) := by decide +kernel
theorem dX7_whyNot_45 : decode cX7_whyNot 45 = .ok (.getfield 54, 3) := by decide +kernel
theorem dX7_whyNot_48 : decode cX7_whyNot 48 = .ok (.if_icmp .ne 7, 3) := by decide +kernel
theorem dX7_whyNot_51 : decode cX7_whyNot 51 = .ok (.iconst 1, 1) := by decide +kernel
theorem dX7_whyNot_52 : decode cX7_whyNot 52 = .ok (.goto 4, 3) := by decide +kernel
theorem dX7_whyNot_55 : decode cX7_whyNot 55 = .ok (.iconst 0, 1) := by decide +kernel
theorem dX7_whyNot_56 : decode cX7_whyNot 56 = .ok (.ireturn, 1) := by decide +kernel
theorem dX7_whyNot_57 : decode cX7_whyNot 57 = .ok (.aload_n 0, 1) := by decide +kernel
theorem dX7_whyNot_58 : decode cX7_whyNot 58 = .ok (.getfield 18, 3) := by decide +kernel
theorem dX7_whyNot_61 : decode cX7_whyNot 61 = .ok (.iconst (-1), 1) := by decide +kernel
theorem dX7_whyNot_62 : decode cX7_whyNot 62 = .ok (.if_icmp .eq 18, 3) := by decide +kernel
theorem dX7_whyNot_65 : decode cX7_whyNot 65 = .ok (.aload_n 0, 1) := by decide +kernel
theorem dX7_whyNot_66 : decode cX7_whyNot 66 = .ok (.invokevirtual 42, 3) := by decide +kernel
theorem dX7_whyNot_69 : decode cX7_whyNot 69 = .ok (.aload_n 1, 1) := by decide +kernel
theorem dX7_whyNot_70 : decode cX7_whyNot 70 = .ok (.getfield 51, 3) := by decide +kernel
theorem dX7_whyNot_73 : decode cX7_whyNot 73 = .ok (.if_icmp .eq 7, 3) := by decide +kernel
theorem dX7_whyNot_76 : decode cX7_whyNot 76 = .ok (.iconst 2, 1) := by decide +kernel
theorem dX7_whyNot_77 : decode cX7_whyNot 77 = .ok (.goto 4, 3) := by decide +kernel
theorem dX7_whyNot_80 : decode cX7_whyNot 80 = .ok (.iconst 0, 1) := by decide +kernel
theorem dX7_whyNot_81 : decode cX7_whyNot 81 = .ok (.ireturn, 1) := by decide +kernel
theorem dX7_whyNot_82 : decode cX7_whyNot 82 = .ok (.aload_n 0, 1) := by decide +kernel
theorem dX7_whyNot_83 : decode cX7_whyNot 83 = .ok (.aload_n 1, 1) := by decide +kernel
theorem dX7_whyNot_84 : decode cX7_whyNot 84 = .ok (.getfield 57, 3) := by decide +kernel
theorem dX7_whyNot_87 : decode cX7_whyNot 87 = .ok (.invokevirtual 60, 3) := by decide +kernel
theorem dX7_whyNot_90 : decode cX7_whyNot 90 = .ok (.aload_n 1, 1) := by decide +kernel
theorem dX7_whyNot_91 : decode cX7_whyNot 91 = .ok (.getfield 64, 3) := by decide +kernel
theorem dX7_whyNot_94 : decode cX7_whyNot 94 = .ok (.if_icmp .ge 7, 3) := by decide +kernel
theorem dX7_whyNot_97 : decode cX7_whyNot 97 = .ok (.iconst 3, 1) := by decide +kernel
theorem dX7_whyNot_98 : decode cX7_whyNot 98 = .ok (.goto 4, 3) := by decide +kernel
theorem dX7_whyNot_101 : decode cX7_whyNot 101 = .ok (.iconst 0, 1) := by decide +kernel
theorem dX7_whyNot_102 : decode cX7_whyNot 102 = .ok (.ireturn, 1) := by decide +kernel
theorem dX7_whyNot_103 : decode cX7_whyNot 103 = .ok (.aload_n 0, 1) := by decide +kernel
theorem dX7_whyNot_104 : decode cX7_whyNot 104 = .ok (.getfield 21, 3) := by decide +kernel
theorem dX7_whyNot_107 : decode cX7_whyNot 107 = .ok (.bipush 99, 2) := by decide +kernel
theorem dX7_whyNot_109 : decode cX7_whyNot 109 = .ok (.if_icmp .lt 7, 3) := by decide +kernel
theorem dX7_whyNot_112 : decode cX7_whyNot 112 = .ok (.iconst 4, 1) := by decide +kernel
theorem dX7_whyNot_113 : decode cX7_whyNot 113 = .ok (.goto 4, 3) := by decide +kernel
theorem dX7_whyNot_116 : decode cX7_whyNot 116 = .ok (.iconst 0, 1) := by decide +kernel
theorem dX7_whyNot_117 : decode cX7_whyNot 117 = .ok (.ireturn, 1) := by decide +kernel
theorem dX7_whyNot_118 : decode cX7_whyNot 118 = .ok (.iconst 0, 1) := by decide +kernel
theorem dX7_whyNot_119 : decode cX7_whyNot 119 = .ok (.ireturn, 1) := by decide +kernel
set_option maxRecDepth 20000 in
theorem ggX7_isWon_X7_peaPlace : GoodIn wsX7_isWon wsX7_peaPlace := goodIn_r _ [7, 8, 9, 10, 11, 12, 13, 19, 20, 21, 22, 23, 24] (by decide +kernel) (by decide +kernel)
set_option maxRecDepth 20000 in
theorem gX7_isWon_X7_peaPlace : GoodIn wsX7_isWon (wsV RX7 42 RX7 yX7_peaPlace wsX7_peaPlace) := goodIn_app (goodIn_of _ (by decide +kernel)) ggX7_isWon_X7_peaPlace
theorem dX7_isWon_0 : decode cX7_isWon 0 = .ok (.aload_n 1, 1) := by decide +kernel
theorem dX7_isWon_1 : decode cX7_isWon 1 = .ok (.getfield 46, 3) := by decide +kernel
theorem dX7_isWon_4 : decode cX7_isWon 4 = .ok (.iconst 3, 1) := by decide +kernel
theorem dX7_isWon_5 : decode cX7_isWon 5 = .ok (.if_icmp .ne 18, 3) := by decide +kernel
theorem dX7_isWon_8 : decode cX7_isWon 8 = .ok (.aload_n 0, 1) := by decide +kernel
theorem dX7_isWon_9 : decode cX7_isWon 9 = .ok (.invokevirtual 42, 3) := by decide +kernel
theorem dX7_isWon_12 : decode cX7_isWon 12 = .ok (.aload_n 1, 1) := by decide +kernel
theorem dX7_isWon_13 : decode cX7_isWon 13 = .ok (.getfield 51, 3) := by decide +kernel
theorem dX7_isWon_16 : decode cX7_isWon 16 = .ok (.if_icmp .ne 7, 3) := by decide +kernel
theorem dX7_isWon_19 : decode cX7_isWon 19 = .ok (.iconst 1, 1) := by decide +kernel
theorem dX7_isWon_20 : decode cX7_isWon 20 = .ok (.goto 4, 3) := by decide +kernel
theorem dX7_isWon_23 : decode cX7_isWon 23 = .ok (.iconst 0, 1) := by decide +kernel
theorem dX7_isWon_24 : decode cX7_isWon 24 = .ok (.ireturn, 1) := by decide +kernel
set_option maxRecDepth 20000 in
theorem ggX7_perform_X7_change : GoodIn wsX7_perform wsX7_change := goodIn_r _ [13, 6, 14, 15, 16, 17, 18, 19, 20, 21, 12, 22, 58, 59, 60, 61, 62, 63] (by decide +kernel) (by decide +kernel)
set_option maxRecDepth 20000 in
theorem gX7_perform_X7_change : GoodIn wsX7_perform (wsV RX7 67 RX7 yX7_change wsX7_change) := goodIn_app (goodIn_of _ (by decide +kernel)) ggX7_perform_X7_change
set_option maxRecDepth 20000 in
theorem ggX7_perform_X7_lift : GoodIn wsX7_perform wsX7_lift := goodIn_r _ [26, 14, 27, 28, 29, 12, 30, 5, 6, 31, 32, 18, 33, 58, 59, 60, 61, 62, 63] (by decide +kernel) (by decide +kernel)
set_option maxRecDepth 20000 in
theorem gX7_perform_X7_lift : GoodIn wsX7_perform (wsV RX7 71 RX7 yX7_lift wsX7_lift) := goodIn_app (goodIn_of _ (by decide +kernel)) ggX7_perform_X7_lift
set_option maxRecDepth 20000 in
theorem ggX7_perform_X2_cupOn : GoodIn wsX7_perform wsX2_cupOn := goodIn_r _ [36] (by decide +kernel) (by decide +kernel)
set_option maxRecDepth 20000 in
theorem gX7_perform_X2_cupOn : GoodIn wsX7_perform (va_wsS RX7 75 yX2_cupOn wsX2_cupOn) := goodIn_app (goodIn_of _ (by decide +kernel)) ggX7_perform_X2_cupOn
set_option maxRecDepth 20000 in
theorem ggX7_perform_X7_isWon : GoodIn wsX7_perform wsX7_isWon := goodIn_r _ [40, 1, 2, 27, 28, 29, 12, 30, 5, 6, 31, 32, 18, 33, 53, 54, 55, 56, 57, 58, 59, 60, 61, 62, 63] (by decide +kernel) (by decide +kernel)
set_option maxRecDepth 20000 in
theorem gX7_perform_X7_isWon : GoodIn wsX7_perform (wsV RX7 78 RX7 yX7_isWon wsX7_isWon) := goodIn_app (goodIn_of _ (by decide +kernel)) ggX7_perform_X7_isWon
set_option maxRecDepth 20000 in
theorem ggX7_perform_X7_pay : GoodIn wsX7_perform wsX7_pay := goodIn_r _ [44, 45, 46, 47, 48, 49, 50, 51, 52, 58, 59, 60, 61, 62, 63] (by decide +kernel) (by decide +kernel)
set_option maxRecDepth 20000 in
theorem gX7_perform_X7_pay : GoodIn wsX7_perform (wsV RX7 82 RX7 yX7_pay wsX7_pay) := goodIn_app (goodIn_of _ (by decide +kernel)) ggX7_perform_X7_pay
theorem dX7_perform_0 : decode cX7_perform 0 = .ok (.aload_n 1, 1) := by decide +kernel
theorem dX7_perform_1 : decode cX7_perform 1 = .ok (.getfield 46, 3) := by decide +kernel
theorem dX7_perform_4 : decode cX7_perform 4 = .ok (.tableswitch 123 0 3 #[32, 51, 62, 92], 32) := by decide +kernel
theorem dX7_perform_36 : decode cX7_perform 36 = .ok (.aload_n 0, 1) := by decide +kernel
theorem dX7_perform_37 : decode cX7_perform 37 = .ok (.aload_n 1, 1) := by decide +kernel
theorem dX7_perform_38 : decode cX7_perform 38 = .ok (.getfield 51, 3) := by decide +kernel
theorem dX7_perform_41 : decode cX7_perform 41 = .ok (.aload_n 1, 1) := by decide +kernel
theorem dX7_perform_42 : decode cX7_perform 42 = .ok (.getfield 54, 3) := by decide +kernel
theorem dX7_perform_45 : decode cX7_perform 45 = .ok (.aload_n 1, 1) := by decide +kernel
theorem dX7_perform_46 : decode cX7_perform 46 = .ok (.getfield 64, 3) := by decide +kernel
theorem dX7_perform_49 : decode cX7_perform 49 = .ok (.invokevirtual 67, 3) := by decide +kernel
theorem dX7_perform_52 : decode cX7_perform 52 = .ok (.goto 85, 3) := by decide +kernel
theorem dX7_perform_55 : decode cX7_perform 55 = .ok (.aload_n 0, 1) := by decide +kernel
theorem dX7_perform_56 : decode cX7_perform 56 = .ok (.aload_n 1, 1) := by decide +kernel
theorem dX7_perform_57 : decode cX7_perform 57 = .ok (.getfield 51, 3) := by decide +kernel
theorem dX7_perform_60 : decode cX7_perform 60 = .ok (.invokevirtual 71, 3) := by decide +kernel
theorem dX7_perform_63 : decode cX7_perform 63 = .ok (.goto 74, 3) := by decide +kernel
theorem dX7_perform_66 : decode cX7_perform 66 = .ok (.aload_n 0, 1) := by decide +kernel
theorem dX7_perform_67 : decode cX7_perform 67 = .ok (.aload_n 0, 1) := by decide +kernel
theorem dX7_perform_68 : decode cX7_perform 68 = .ok (.getfield 18, 3) := by decide +kernel
theorem dX7_perform_71 : decode cX7_perform 71 = .ok (.iconst (-1), 1) := by decide +kernel
theorem dX7_perform_72 : decode cX7_perform 72 = .ok (.if_icmp .ne 17, 3) := by decide +kernel
theorem dX7_perform_75 : decode cX7_perform 75 = .ok (.aload_n 0, 1) := by decide +kernel
theorem dX7_perform_76 : decode cX7_perform 76 = .ok (.getfield 12, 3) := by decide +kernel
theorem dX7_perform_79 : decode cX7_perform 79 = .ok (.aload_n 1, 1) := by decide +kernel
theorem dX7_perform_80 : decode cX7_perform 80 = .ok (.getfield 51, 3) := by decide +kernel
theorem dX7_perform_83 : decode cX7_perform 83 = .ok (.invokestatic 75, 3) := by decide +kernel
theorem dX7_perform_86 : decode cX7_perform 86 = .ok (.goto 4, 3) := by decide +kernel
theorem dX7_perform_89 : decode cX7_perform 89 = .ok (.iconst (-1), 1) := by decide +kernel
theorem dX7_perform_90 : decode cX7_perform 90 = .ok (.putfield 18, 3) := by decide +kernel
theorem dX7_perform_93 : decode cX7_perform 93 = .ok (.goto 44, 3) := by decide +kernel
theorem dX7_perform_96 : decode cX7_perform 96 = .ok (.aload_n 0, 1) := by decide +kernel
theorem dX7_perform_97 : decode cX7_perform 97 = .ok (.aload_n 1, 1) := by decide +kernel
theorem dX7_perform_98 : decode cX7_perform 98 = .ok (.getfield 57, 3) := by decide +kernel
theorem dX7_perform_101 : decode cX7_perform 101 = .ok (.aload_n 0, 1) := by decide +kernel
theorem dX7_perform_102 : decode cX7_perform 102 = .ok (.aload_n 1, 1) := by decide +kernel
theorem dX7_perform_103 : decode cX7_perform 103 = .ok (.invokevirtual 78, 3) := by decide +kernel
theorem dX7_perform_106 : decode cX7_perform 106 = .ok (.ifCond .eq 10, 3) := by decide +kernel
theorem dX7_perform_109 : decode cX7_perform 109 = .ok (.aload_n 1, 1) := by decide +kernel
theorem dX7_perform_110 : decode cX7_perform 110 = .ok (.getfield 64, 3) := by decide +kernel
theorem dX7_perform_113 : decode cX7_perform 113 = .ok (.goto 8, 3) := by decide +kernel
theorem dX7_perform_116 : decode cX7_perform 116 = .ok (.aload_n 1, 1) := by decide +kernel
theorem dX7_perform_117 : decode cX7_perform 117 = .ok (.getfield 64, 3) := by decide +kernel
theorem dX7_perform_120 : decode cX7_perform 120 = .ok (.ineg, 1) := by decide +kernel
theorem dX7_perform_121 : decode cX7_perform 121 = .ok (.invokevirtual 82, 3) := by decide +kernel
theorem dX7_perform_124 : decode cX7_perform 124 = .ok (.goto 13, 3) := by decide +kernel
theorem dX7_perform_127 : decode cX7_perform 127 = .ok (.aload_n 0, 1) := by decide +kernel
theorem dX7_perform_128 : decode cX7_perform 128 = .ok (.dup, 1) := by decide +kernel
theorem dX7_perform_129 : decode cX7_perform 129 = .ok (.getfield 21, 3) := by decide +kernel
theorem dX7_perform_132 : decode cX7_perform 132 = .ok (.iconst 1, 1) := by decide +kernel
theorem dX7_perform_133 : decode cX7_perform 133 = .ok (.iadd, 1) := by decide +kernel
theorem dX7_perform_134 : decode cX7_perform 134 = .ok (.putfield 21, 3) := by decide +kernel
theorem dX7_perform_137 : decode cX7_perform 137 = .ok (.return_, 1) := by decide +kernel
set_option maxRecDepth 20000 in
theorem ggX7_change_X2_changed : GoodIn wsX7_change wsX2_changed := goodIn_r _ [7] (by decide +kernel) (by decide +kernel)
set_option maxRecDepth 20000 in
theorem gX7_change_X2_changed : GoodIn wsX7_change (va_wsS RX7 86 yX2_changed wsX2_changed) := goodIn_app (goodIn_of _ (by decide +kernel)) ggX7_change_X2_changed
set_option maxRecDepth 20000 in
theorem ggX7_change_X7_withBitsChanged : GoodIn wsX7_change wsX7_withBitsChanged := goodIn_r _ [11] (by decide +kernel) (by decide +kernel)
set_option maxRecDepth 20000 in
theorem gX7_change_X7_withBitsChanged : GoodIn wsX7_change (va_wsS RX7 90 yX7_withBitsChanged wsX7_withBitsChanged) := goodIn_app (goodIn_of _ (by decide +kernel)) ggX7_change_X7_withBitsChanged
theorem dX7_change_0 : decode cX7_change 0 = .ok (.aload_n 0, 1) := by decide +kernel
theorem dX7_change_1 : decode cX7_change 1 = .ok (.aload_n 0, 1) := by decide +kernel
theorem dX7_change_2 : decode cX7_change 2 = .ok (.getfield 12, 3) := by decide +kernel
theorem dX7_change_5 : decode cX7_change 5 = .ok (.iload_n 1, 1) := by decide +kernel
theorem dX7_change_6 : decode cX7_change 6 = .ok (.iload_n 2, 1) := by decide +kernel
theorem dX7_change_7 : decode cX7_change 7 = .ok (.invokestatic 86, 3) := by decide +kernel
theorem dX7_change_10 : decode cX7_change 10 = .ok (.putfield 12, 3) := by decide +kernel
theorem dX7_change_13 : decode cX7_change 13 = .ok (.iconst 0, 1) := by decide +kernel
theorem dX7_change_14 : decode cX7_change 14 = .ok (.istore 4, 2) := by decide +kernel
theorem dX7_change_16 : decode cX7_change 16 = .ok (.iload 4, 2) := by decide +kernel
theorem dX7_change_18 : decode cX7_change 18 = .ok (.iconst 4, 1) := by decide +kernel
theorem dX7_change_19 : decode cX7_change 19 = .ok (.if_icmp .ge 44, 3) := by decide +kernel
theorem dX7_change_22 : decode cX7_change 22 = .ok (.aload_n 0, 1) := by decide +kernel
theorem dX7_change_23 : decode cX7_change 23 = .ok (.getfield 31, 3) := by decide +kernel
theorem dX7_change_26 : decode cX7_change 26 = .ok (.iload 4, 2) := by decide +kernel
theorem dX7_change_28 : decode cX7_change 28 = .ok (.aload_n 0, 1) := by decide +kernel
theorem dX7_change_29 : decode cX7_change 29 = .ok (.getfield 24, 3) := by decide +kernel
theorem dX7_change_32 : decode cX7_change 32 = .ok (.iload 4, 2) := by decide +kernel
theorem dX7_change_34 : decode cX7_change 34 = .ok (.iaload, 1) := by decide +kernel
theorem dX7_change_35 : decode cX7_change 35 = .ok (.iload_n 3, 1) := by decide +kernel
theorem dX7_change_36 : decode cX7_change 36 = .ok (.if_icmp .lt 18, 3) := by decide +kernel
theorem dX7_change_39 : decode cX7_change 39 = .ok (.aload_n 0, 1) := by decide +kernel
theorem dX7_change_40 : decode cX7_change 40 = .ok (.getfield 31, 3) := by decide +kernel
theorem dX7_change_43 : decode cX7_change 43 = .ok (.iload 4, 2) := by decide +kernel
theorem dX7_change_45 : decode cX7_change 45 = .ok (.iaload, 1) := by decide +kernel
theorem dX7_change_46 : decode cX7_change 46 = .ok (.iload_n 1, 1) := by decide +kernel
theorem dX7_change_47 : decode cX7_change 47 = .ok (.iload_n 2, 1) := by decide +kernel
theorem dX7_change_48 : decode cX7_change 48 = .ok (.invokestatic 90, 3) := by decide +kernel
theorem dX7_change_51 : decode cX7_change 51 = .ok (.goto 5, 3) := by decide +kernel
theorem dX7_change_54 : decode cX7_change 54 = .ok (.bipush 63, 2) := by decide +kernel
theorem dX7_change_56 : decode cX7_change 56 = .ok (.iastore, 1) := by decide +kernel
theorem dX7_change_57 : decode cX7_change 57 = .ok (.iinc 4 1, 3) := by decide +kernel
theorem dX7_change_60 : decode cX7_change 60 = .ok (.goto (-44), 3) := by decide +kernel
theorem dX7_change_63 : decode cX7_change 63 = .ok (.return_, 1) := by decide +kernel
theorem dX7_withBitsChanged_0 : decode cX7_withBitsChanged 0 = .ok (.iload_n 0, 1) := by decide +kernel
theorem dX7_withBitsChanged_1 : decode cX7_withBitsChanged 1 = .ok (.iload_n 1, 1) := by decide +kernel
theorem dX7_withBitsChanged_2 : decode cX7_withBitsChanged 2 = .ok (.ishr, 1) := by decide +kernel
theorem dX7_withBitsChanged_3 : decode cX7_withBitsChanged 3 = .ok (.iload_n 0, 1) := by decide +kernel
theorem dX7_withBitsChanged_4 : decode cX7_withBitsChanged 4 = .ok (.iload_n 2, 1) := by decide +kernel
theorem dX7_withBitsChanged_5 : decode cX7_withBitsChanged 5 = .ok (.ishr, 1) := by decide +kernel
theorem dX7_withBitsChanged_6 : decode cX7_withBitsChanged 6 = .ok (.ixor, 1) := by decide +kernel
theorem dX7_withBitsChanged_7 : decode cX7_withBitsChanged 7 = .ok (.iconst 1, 1) := by decide +kernel
theorem dX7_withBitsChanged_8 : decode cX7_withBitsChanged 8 = .ok (.iand, 1) := by decide +kernel
theorem dX7_withBitsChanged_9 : decode cX7_withBitsChanged 9 = .ok (.istore_n 3, 1) := by decide +kernel
theorem dX7_withBitsChanged_10 : decode cX7_withBitsChanged 10 = .ok (.iload_n 0, 1) := by decide +kernel
theorem dX7_withBitsChanged_11 : decode cX7_withBitsChanged 11 = .ok (.iload_n 3, 1) := by decide +kernel
theorem dX7_withBitsChanged_12 : decode cX7_withBitsChanged 12 = .ok (.iload_n 1, 1) := by decide +kernel
theorem dX7_withBitsChanged_13 : decode cX7_withBitsChanged 13 = .ok (.ishl, 1) := by decide +kernel
theorem dX7_withBitsChanged_14 : decode cX7_withBitsChanged 14 = .ok (.ixor, 1) := by decide +kernel
theorem dX7_withBitsChanged_15 : decode cX7_withBitsChanged 15 = .ok (.iload_n 3, 1) := by decide +kernel
theorem dX7_withBitsChanged_16 : decode cX7_withBitsChanged 16 = .ok (.iload_n 2, 1) := by decide +kernel
theorem dX7_withBitsChanged_17 : decode cX7_withBitsChanged 17 = .ok (.ishl, 1) := by decide +kernel
theorem dX7_withBitsChanged_18 : decode cX7_withBitsChanged 18 = .ok (.ixor, 1) := by decide +kernel
theorem dX7_withBitsChanged_19 : decode cX7_withBitsChanged 19 = .ok (.ireturn, 1) := by decide +kernel
set_option maxRecDepth 20000 in
theorem ggX7_lift_X7_peaPlace : GoodIn wsX7_lift wsX7_peaPlace := goodIn_r _ [6, 7, 8, 9, 10, 11, 12, 13, 14, 15, 16, 17, 18] (by decide +kernel) (by decide +kernel)
set_option maxRecDepth 20000 in
theorem gX7_lift_X7_peaPlace : GoodIn wsX7_lift (wsV RX7 42 RX7 yX7_peaPlace wsX7_peaPlace) := goodIn_app (goodIn_of _ (by decide +kernel)) ggX7_lift_X7_peaPlace
theorem dX7_lift_0 : decode cX7_lift 0 = .ok (.iconst 1, 1) := by decide +kernel
theorem dX7_lift_1 : decode cX7_lift 1 = .ok (.iload_n 1, 1) := by decide +kernel
theorem dX7_lift_2 : decode cX7_lift 2 = .ok (.ishl, 1) := by decide +kernel
theorem dX7_lift_3 : decode cX7_lift 3 = .ok (.istore_n 2, 1) := by decide +kernel
theorem dX7_lift_4 : decode cX7_lift 4 = .ok (.aload_n 0, 1) := by decide +kernel
theorem dX7_lift_5 : decode cX7_lift 5 = .ok (.invokevirtual 42, 3) := by decide +kernel
theorem dX7_lift_8 : decode cX7_lift 8 = .ok (.iload_n 1, 1) := by decide +kernel
theorem dX7_lift_9 : decode cX7_lift 9 = .ok (.if_icmp .ne 7, 3) := by decide +kernel
theorem dX7_lift_12 : decode cX7_lift 12 = .ok (.iconst 1, 1) := by decide +kernel
theorem dX7_lift_13 : decode cX7_lift 13 = .ok (.goto 4, 3) := by decide +kernel
theorem dX7_lift_16 : decode cX7_lift 16 = .ok (.iconst 0, 1) := by decide +kernel
theorem dX7_lift_17 : decode cX7_lift 17 = .ok (.istore_n 3, 1) := by decide +kernel
theorem dX7_lift_18 : decode cX7_lift 18 = .ok (.iconst 0, 1) := by decide +kernel
theorem dX7_lift_19 : decode cX7_lift 19 = .ok (.istore 4, 2) := by decide +kernel
theorem dX7_lift_21 : decode cX7_lift 21 = .ok (.iload 4, 2) := by decide +kernel
theorem dX7_lift_23 : decode cX7_lift 23 = .ok (.iconst 4, 1) := by decide +kernel
theorem dX7_lift_24 : decode cX7_lift 24 = .ok (.if_icmp .ge 60, 3) := by decide +kernel
theorem dX7_lift_27 : decode cX7_lift 27 = .ok (.aload_n 0, 1) := by decide +kernel
theorem dX7_lift_28 : decode cX7_lift 28 = .ok (.getfield 31, 3) := by decide +kernel
theorem dX7_lift_31 : decode cX7_lift 31 = .ok (.iload 4, 2) := by decide +kernel
theorem dX7_lift_33 : decode cX7_lift 33 = .ok (.iaload, 1) := by decide +kernel
theorem dX7_lift_34 : decode cX7_lift 34 = .ok (.iload_n 2, 1) := by decide +kernel
theorem dX7_lift_35 : decode cX7_lift 35 = .ok (.iconst (-1), 1) := by decide +kernel
theorem dX7_lift_36 : decode cX7_lift 36 = .ok (.ixor, 1) := by decide +kernel
theorem dX7_lift_37 : decode cX7_lift 37 = .ok (.iand, 1) := by decide +kernel
theorem dX7_lift_38 : decode cX7_lift 38 = .ok (.istore 5, 2) := by decide +kernel
theorem dX7_lift_40 : decode cX7_lift 40 = .ok (.iload_n 3, 1) := by decide +kernel
theorem dX7_lift_41 : decode cX7_lift 41 = .ok (.ifCond .eq 14, 3) := by decide +kernel
theorem dX7_lift_44 : decode cX7_lift 44 = .ok (.aload_n 0, 1) := by decide +kernel
theorem dX7_lift_45 : decode cX7_lift 45 = .ok (.getfield 31, 3) := by decide +kernel
theorem dX7_lift_48 : decode cX7_lift 48 = .ok (.iload 4, 2) := by decide +kernel
theorem dX7_lift_50 : decode cX7_lift 50 = .ok (.iload_n 2, 1) := by decide +kernel
theorem dX7_lift_51 : decode cX7_lift 51 = .ok (.iastore, 1) := by decide +kernel
theorem dX7_lift_52 : decode cX7_lift 52 = .ok (.goto 26, 3) := by decide +kernel
theorem dX7_lift_55 : decode cX7_lift 55 = .ok (.aload_n 0, 1) := by decide +kernel
theorem dX7_lift_56 : decode cX7_lift 56 = .ok (.getfield 31, 3) := by decide +kernel
theorem dX7_lift_59 : decode cX7_lift 59 = .ok (.iload 4, 2) := by decide +kernel
theorem dX7_lift_61 : decode cX7_lift 61 = .ok (.iload 5, 2) := by decide +kernel
theorem dX7_lift_63 : decode cX7_lift 63 = .ok (.ifCond .eq 8, 3) := by decide +kernel
theorem dX7_lift_66 : decode cX7_lift 66 = .ok (.iload 5, 2) := by decide +kernel
theorem dX7_lift_68 : decode cX7_lift 68 = .ok (.goto 9, 3) := by decide +kernel
theorem dX7_lift_71 : decode cX7_lift 71 = .ok (.bipush 63, 2) := by decide +kernel
theorem dX7_lift_73 : decode cX7_lift 73 = .ok (.iload_n 2, 1) := by decide +kernel
theorem dX7_lift_74 : decode cX7_lift 74 = .ok (.iconst (-1), 1) := by decide +kernel
theorem dX7_lift_75 : decode cX7_lift 75 = .ok (.ixor, 1) := by decide +kernel
theorem dX7_lift_76 : decode cX7_lift 76 = .ok (.iand, 1) := by decide +kernel
theorem dX7_lift_77 : decode cX7_lift 77 = .ok (.iastore, 1) := by decide +kernel
theorem dX7_lift_78 : decode cX7_lift 78 = .ok (.iinc 4 1, 3) := by decide +kernel
theorem dX7_lift_81 : decode cX7_lift 81 = .ok (.goto (-60), 3) := by decide +kernel
theorem dX7_lift_84 : decode cX7_lift 84 = .ok (.return_, 1) := by decide +kernel
set_option maxRecDepth 20000 in
theorem ggX7_pay_X9_isWatcher : GoodIn wsX7_pay wsX9_isWatcher := goodIn_r _ [8] (by decide +kernel) (by decide +kernel)
set_option maxRecDepth 20000 in
theorem gX7_pay_X9_isWatcher_n34 : GoodIn wsX7_pay (wsX9_isWatcher) := ggX7_pay_X9_isWatcher
theorem dX7_pay_0 : decode cX7_pay 0 = .ok (.iload_n 1, 1) := by decide +kernel
theorem dX7_pay_1 : decode cX7_pay 1 = .ok (.invokestatic 34, 3) := by decide +kernel
theorem dX7_pay_4 : decode cX7_pay 4 = .ok (.ifCond .eq 23, 3) := by decide +kernel
theorem dX7_pay_7 : decode cX7_pay 7 = .ok (.aload_n 0, 1) := by decide +kernel
theorem dX7_pay_8 : decode cX7_pay 8 = .ok (.getfield 28, 3) := by decide +kernel
theorem dX7_pay_11 : decode cX7_pay 11 = .ok (.iload_n 1, 1) := by decide +kernel
theorem dX7_pay_12 : decode cX7_pay 12 = .ok (.sipush 999, 3) := by decide +kernel
theorem dX7_pay_15 : decode cX7_pay 15 = .ok (.aload_n 0, 1) := by decide +kernel
theorem dX7_pay_16 : decode cX7_pay 16 = .ok (.getfield 28, 3) := by decide +kernel
theorem dX7_pay_19 : decode cX7_pay 19 = .ok (.iload_n 1, 1) := by decide +kernel
theorem dX7_pay_20 : decode cX7_pay 20 = .ok (.iaload, 1) := by decide +kernel
theorem dX7_pay_21 : decode cX7_pay 21 = .ok (.iload_n 2, 1) := by decide +kernel
theorem dX7_pay_22 : decode cX7_pay 22 = .ok (.iadd, 1) := by decide +kernel
theorem dX7_pay_23 : decode cX7_pay 23 = .ok (.invokestatic 93, 3) := by decide +kernel
theorem dX7_pay_26 : decode cX7_pay 26 = .ok (.iastore, 1) := by decide +kernel
theorem dX7_pay_27 : decode cX7_pay 27 = .ok (.return_, 1) := by decide +kernel
set_option maxRecDepth 20000 in
theorem ggX8_init_X7_init : GoodIn wsX8_init wsX7_init := goodIn_r _ [13, 14, 2, 3, 15, 16, 17, 18, 19, 20, 21, 22, 26, 27, 28, 29, 30, 31] (by decide +kernel) (by decide +kernel)
set_option maxRecDepth 20000 in
theorem gX8_init_X7_init_n11 : GoodIn wsX8_init (wsX7_init) := ggX8_init_X7_init
set_option maxRecDepth 20000 in
theorem ggX8_init_X0_init : GoodIn wsX8_init wsX0_init := goodIn_r _ [24, 25, 2, 3] (by decide +kernel) (by decide +kernel)
set_option maxRecDepth 20000 in
theorem gX8_init_X0_init_n20 : GoodIn wsX8_init (wsX0_init) := ggX8_init_X0_init
theorem dX8_init_0 : decode cX8_init 0 = .ok (.aload_n 0, 1) := by decide +kernel
theorem dX8_init_1 : decode cX8_init 1 = .ok (.invokespecial 3, 3) := by decide +kernel
theorem dX8_init_4 : decode cX8_init 4 = .ok (.aload_n 0, 1) := by decide +kernel
theorem dX8_init_5 : decode cX8_init 5 = .ok (.new 9, 3) := by decide +kernel
theorem dX8_init_8 : decode cX8_init 8 = .ok (.dup, 1) := by decide +kernel
theorem dX8_init_9 : decode cX8_init 9 = .ok (.invokespecial 11, 3) := by decide +kernel
theorem dX8_init_12 : decode cX8_init 12 = .ok (.putfield 12, 3) := by decide +kernel
theorem dX8_init_15 : decode cX8_init 15 = .ok (.aload_n 0, 1) := by decide +kernel
theorem dX8_init_16 : decode cX8_init 16 = .ok (.new 18, 3) := by decide +kernel
theorem dX8_init_19 : decode cX8_init 19 = .ok (.dup, 1) := by decide +kernel
theorem dX8_init_20 : decode cX8_init 20 = .ok (.invokespecial 20, 3) := by decide +kernel
theorem dX8_init_23 : decode cX8_init 23 = .ok (.putfield 21, 3) := by decide +kernel
theorem dX8_init_26 : decode cX8_init 26 = .ok (.return_, 1) := by decide +kernel
set_option maxRecDepth 20000 in
theorem ggX8_followText_X8_begin : GoodIn wsX8_followText wsX8_begin := goodIn_r _ [8, 9, 10, 2, 11, 12, 13, 14, 15, 16, 17, 18, 19, 20, 21, 22, 23, 24, 25, 136, 137, 138, 139, 140, 141, 142, 143, 144, 145, 146, 147, 148, 149] (by decide +kernel) (by decide +kernel)
set_option maxRecDepth 20000 in
theorem gX8_followText_X8_begin : GoodIn wsX8_followText (wsV RX8 25 RX8 yX8_begin wsX8_begin) := goodIn_app (goodIn_of _ (by decide +kernel)) ggX8_followText_X8_begin
set_option maxRecDepth 20000 in
theorem ggX8_followText_X3_readAct : GoodIn wsX8_followText wsX3_readAct := goodIn_r _ [30, 31, 32, 33, 29, 34, 35, 36, 37, 38, 39, 40, 41, 42, 43, 44, 45, 46, 47, 48, 49, 50, 51, 52, 53, 54, 55, 56, 57, 58, 59, 60, 61, 62, 63, 134, 135, 150, 151, 152, 153, 154] (by decide +kernel) (by decide +kernel)
set_option maxRecDepth 20000 in
theorem gX8_followText_X3_readAct : GoodIn wsX8_followText (wsV RX8 38 RX3 yX3_readAct wsX3_readAct) := goodIn_app (goodIn_of _ (by decide +kernel)) ggX8_followText_X3_readAct
set_option maxRecDepth 20000 in
theorem ggX8_followText_X8_step : GoodIn wsX8_followText wsX8_step := goodIn_r _ [67, 9, 3, 10, 2, 11, 12, 68, 69, 70, 18, 71, 72, 73, 74, 21, 75, 76, 22, 77, 78, 79, 80, 20, 81, 82, 83, 84, 85, 86, 87, 88, 24, 89, 90, 91, 92, 93, 94, 95, 96, 97, 98, 99, 25, 100, 101, 102, 103, 104, 105, 106, 107, 23, 108, 109, 110, 111, 112, 113, 114, 115, 116, 117, 118, 119, 120, 121, 122, 123, 124, 125, 126, 127, 128, 129, 130, 131, 132, 7, 133, 13, 14, 136, 137, 138, 139, 140, 141, 142, 143, 150, 151, 152, 153, 154, 144, 145, 146, 147, 148, 149] (by decide +kernel) (by decide +kernel)
set_option maxRecDepth 20000 in
theorem gX8_followText_X8_step : GoodIn wsX8_followText (wsV RX8 42 RX8 yX8_step wsX8_step) := goodIn_app (goodIn_of _ (by decide +kernel)) ggX8_followText_X8_step
theorem dX8_followText_0 : decode cX8_followText 0 = .ok (.aload_n 0, 1) := by decide +kernel
theorem dX8_followText_1 : decode cX8_followText 1 = .ok (.aload_n 1, 1) := by decide +kernel
theorem dX8_followText_2 : decode cX8_followText 2 = .ok (.invokevirtual 25, 3) := by decide +kernel
theorem dX8_followText_5 : decode cX8_followText 5 = .ok (.iconst 0, 1) := by decide +kernel
theorem dX8_followText_6 : decode cX8_followText 6 = .ok (.istore_n 3, 1) := by decide +kernel
theorem dX8_followText_7 : decode cX8_followText 7 = .ok (.iconst 0, 1) := by decide +kernel
theorem dX8_followText_8 : decode cX8_followText 8 = .ok (.istore 4, 2) := by decide +kernel
theorem dX8_followText_10 : decode cX8_followText 10 = .ok (.iload 4, 2) := by decide +kernel
theorem dX8_followText_12 : decode cX8_followText 12 = .ok (.bipush 60, 2) := by decide +kernel
theorem dX8_followText_14 : decode cX8_followText 14 = .ok (.if_icmp .ge 42, 3) := by decide +kernel
theorem dX8_followText_17 : decode cX8_followText 17 = .ok (.iload_n 3, 1) := by decide +kernel
theorem dX8_followText_18 : decode cX8_followText 18 = .ok (.aload_n 2, 1) := by decide +kernel
theorem dX8_followText_19 : decode cX8_followText 19 = .ok (.getfield 31, 3) := by decide +kernel
theorem dX8_followText_22 : decode cX8_followText 22 = .ok (.if_icmp .ge 34, 3) := by decide +kernel
theorem dX8_followText_25 : decode cX8_followText 25 = .ok (.aload_n 0, 1) := by decide +kernel
theorem dX8_followText_26 : decode cX8_followText 26 = .ok (.getfield 35, 3) := by decide +kernel
theorem dX8_followText_29 : decode cX8_followText 29 = .ok (.bipush (-6), 2) := by decide +kernel
theorem dX8_followText_31 : decode cX8_followText 31 = .ok (.if_icmp .ne 25, 3) := by decide +kernel
theorem dX8_followText_34 : decode cX8_followText 34 = .ok (.iload_n 3, 1) := by decide +kernel
theorem dX8_followText_35 : decode cX8_followText 35 = .ok (.aload_n 2, 1) := by decide +kernel
theorem dX8_followText_36 : decode cX8_followText 36 = .ok (.iload_n 3, 1) := by decide +kernel
theorem dX8_followText_37 : decode cX8_followText 37 = .ok (.aload_n 0, 1) := by decide +kernel
theorem dX8_followText_38 : decode cX8_followText 38 = .ok (.getfield 21, 3) := by decide +kernel
theorem dX8_followText_41 : decode cX8_followText 41 = .ok (.invokevirtual 38, 3) := by decide +kernel
theorem dX8_followText_44 : decode cX8_followText 44 = .ok (.iadd, 1) := by decide +kernel
theorem dX8_followText_45 : decode cX8_followText 45 = .ok (.istore_n 3, 1) := by decide +kernel
theorem dX8_followText_46 : decode cX8_followText 46 = .ok (.aload_n 0, 1) := by decide +kernel
theorem dX8_followText_47 : decode cX8_followText 47 = .ok (.invokevirtual 42, 3) := by decide +kernel
theorem dX8_followText_50 : decode cX8_followText 50 = .ok (.iinc 4 1, 3) := by decide +kernel
theorem dX8_followText_53 : decode cX8_followText 53 = .ok (.goto (-43), 3) := by decide +kernel
theorem dX8_followText_56 : decode cX8_followText 56 = .ok (.return_, 1) := by decide +kernel
set_option maxRecDepth 20000 in
theorem ggX8_followDraws_X8_begin : GoodIn wsX8_followDraws wsX8_begin := goodIn_r _ [8, 3, 9, 10, 11, 12, 13, 14, 15, 16, 17, 18, 19, 20, 21, 22, 23, 24, 25, 105, 106, 107, 108, 109, 110, 111, 112, 113, 114, 115, 116, 117, 118] (by decide +kernel) (by decide +kernel)
set_option maxRecDepth 20000 in
theorem gX8_followDraws_X8_begin : GoodIn wsX8_followDraws (wsV RX8 25 RX8 yX8_begin wsX8_begin) := goodIn_app (goodIn_of _ (by decide +kernel)) ggX8_followDraws_X8_begin
set_option maxRecDepth 20000 in
theorem ggX8_followDraws_X0_setDrawn : GoodIn wsX8_followDraws wsX0_setDrawn := goodIn_r _ [30, 31, 32, 33, 29, 34, 35, 36, 37, 38, 39, 40, 41, 42, 43, 44, 45, 46, 47, 119, 120, 121, 122, 123] (by decide +kernel) (by decide +kernel)
set_option maxRecDepth 20000 in
theorem gX8_followDraws_X0_setDrawn : GoodIn wsX8_followDraws (wsV RX8 46 RX0 yX0_setDrawn wsX0_setDrawn) := goodIn_app (goodIn_of _ (by decide +kernel)) ggX8_followDraws_X0_setDrawn
set_option maxRecDepth 20000 in
theorem ggX8_followDraws_X7_whyNot : GoodIn wsX8_followDraws wsX7_whyNot := goodIn_r _ [51, 52, 53, 54, 21, 55, 56, 22, 57, 58, 59, 18, 60, 20, 61, 62, 63, 64, 65, 66, 67, 68, 24, 69, 70, 71, 119, 120, 121, 122, 123, 113, 114, 115, 116, 117, 118] (by decide +kernel) (by decide +kernel)
set_option maxRecDepth 20000 in
theorem gX8_followDraws_X7_whyNot : GoodIn wsX8_followDraws (wsV RX8 50 RX7 yX7_whyNot wsX7_whyNot) := goodIn_app (goodIn_of _ (by decide +kernel)) ggX8_followDraws_X7_whyNot
set_option maxRecDepth 20000 in
theorem ggX8_followDraws_X7_perform : GoodIn wsX8_followDraws wsX7_perform := goodIn_r _ [75, 52, 53, 54, 56, 21, 20, 55, 22, 76, 77, 78, 18, 79, 25, 23, 80, 81, 63, 82, 83, 84, 85, 86, 87, 88, 89, 57, 58, 59, 60, 61, 62, 64, 90, 91, 92, 93, 94, 95, 96, 97, 98, 99, 100, 24, 101, 102, 103, 104, 69, 70, 71, 119, 120, 121, 122, 123, 113, 114, 115, 116, 117, 118] (by decide +kernel) (by decide +kernel)
set_option maxRecDepth 20000 in
theorem gX8_followDraws_X7_perform : GoodIn wsX8_followDraws (wsV RX8 54 RX7 yX7_perform wsX7_perform) := goodIn_app (goodIn_of _ (by decide +kernel)) ggX8_followDraws_X7_perform
theorem dX8_followDraws_0 : decode cX8_followDraws 0 = .ok (.aload_n 0, 1) := by decide +kernel
theorem dX8_followDraws_1 : decode cX8_followDraws 1 = .ok (.aload_n 1, 1) := by decide +kernel
theorem dX8_followDraws_2 : decode cX8_followDraws 2 = .ok (.invokevirtual 25, 3) := by decide +kernel
theorem dX8_followDraws_5 : decode cX8_followDraws 5 = .ok (.iload_n 2, 1) := by decide +kernel
theorem dX8_followDraws_6 : decode cX8_followDraws 6 = .ok (.istore 4, 2) := by decide +kernel
theorem dX8_followDraws_8 : decode cX8_followDraws 8 = .ok (.iconst 0, 1) := by decide +kernel
theorem dX8_followDraws_9 : decode cX8_followDraws 9 = .ok (.istore 5, 2) := by decide +kernel
theorem dX8_followDraws_11 : decode cX8_followDraws 11 = .ok (.iload 5, 2) := by decide +kernel
theorem dX8_followDraws_13 : decode cX8_followDraws 13 = .ok (.iload_n 3, 1) := by decide +kernel
theorem dX8_followDraws_14 : decode cX8_followDraws 14 = .ok (.if_icmp .ge 56, 3) := by decide +kernel
theorem dX8_followDraws_17 : decode cX8_followDraws 17 = .ok (.bipush 75, 2) := by decide +kernel
theorem dX8_followDraws_19 : decode cX8_followDraws 19 = .ok (.iload 4, 2) := by decide +kernel
theorem dX8_followDraws_21 : decode cX8_followDraws 21 = .ok (.imul, 1) := by decide +kernel
theorem dX8_followDraws_22 : decode cX8_followDraws 22 = .ok (.bipush 74, 2) := by decide +kernel
theorem dX8_followDraws_24 : decode cX8_followDraws 24 = .ok (.iadd, 1) := by decide +kernel
theorem dX8_followDraws_25 : decode cX8_followDraws 25 = .ok (.ldc 45, 2) := by decide +kernel
theorem dX8_followDraws_27 : decode cX8_followDraws 27 = .ok (.irem, 1) := by decide +kernel
theorem dX8_followDraws_28 : decode cX8_followDraws 28 = .ok (.istore 4, 2) := by decide +kernel
theorem dX8_followDraws_30 : decode cX8_followDraws 30 = .ok (.aload_n 0, 1) := by decide +kernel
theorem dX8_followDraws_31 : decode cX8_followDraws 31 = .ok (.getfield 21, 3) := by decide +kernel
theorem dX8_followDraws_34 : decode cX8_followDraws 34 = .ok (.iload 4, 2) := by decide +kernel
theorem dX8_followDraws_36 : decode cX8_followDraws 36 = .ok (.invokevirtual 46, 3) := by decide +kernel
theorem dX8_followDraws_39 : decode cX8_followDraws 39 = .ok (.aload_n 0, 1) := by decide +kernel
theorem dX8_followDraws_40 : decode cX8_followDraws 40 = .ok (.getfield 12, 3) := by decide +kernel
theorem dX8_followDraws_43 : decode cX8_followDraws 43 = .ok (.aload_n 0, 1) := by decide +kernel
theorem dX8_followDraws_44 : decode cX8_followDraws 44 = .ok (.getfield 21, 3) := by decide +kernel
theorem dX8_followDraws_47 : decode cX8_followDraws 47 = .ok (.invokevirtual 50, 3) := by decide +kernel
theorem dX8_followDraws_50 : decode cX8_followDraws 50 = .ok (.ifCond .ne 14, 3) := by decide +kernel
theorem dX8_followDraws_53 : decode cX8_followDraws 53 = .ok (.aload_n 0, 1) := by decide +kernel
theorem dX8_followDraws_54 : decode cX8_followDraws 54 = .ok (.getfield 12, 3) := by decide +kernel
theorem dX8_followDraws_57 : decode cX8_followDraws 57 = .ok (.aload_n 0, 1) := by decide +kernel
theorem dX8_followDraws_58 : decode cX8_followDraws 58 = .ok (.getfield 21, 3) := by decide +kernel
theorem dX8_followDraws_61 : decode cX8_followDraws 61 = .ok (.invokevirtual 54, 3) := by decide +kernel
theorem dX8_followDraws_64 : decode cX8_followDraws 64 = .ok (.iinc 5 1, 3) := by decide +kernel
theorem dX8_followDraws_67 : decode cX8_followDraws 67 = .ok (.goto (-56), 3) := by decide +kernel
theorem dX8_followDraws_70 : decode cX8_followDraws 70 = .ok (.return_, 1) := by decide +kernel
set_option maxRecDepth 20000 in
theorem ggX8_begin_X7_copyFrom : GoodIn wsX8_begin wsX7_copyFrom := goodIn_r _ [12, 13, 14, 15, 16, 17, 18, 27, 28, 29, 30, 31, 32] (by decide +kernel) (by decide +kernel)
set_option maxRecDepth 20000 in
theorem gX8_begin_X7_copyFrom : GoodIn wsX8_begin (wsV RX8 58 RX7 yX7_copyFrom wsX7_copyFrom) := goodIn_app (goodIn_of _ (by decide +kernel)) ggX8_begin_X7_copyFrom
theorem dX8_begin_0 : decode cX8_begin 0 = .ok (.aload_n 0, 1) := by decide +kernel
theorem dX8_begin_1 : decode cX8_begin 1 = .ok (.getfield 12, 3) := by decide +kernel
theorem dX8_begin_4 : decode cX8_begin 4 = .ok (.aload_n 1, 1) := by decide +kernel
theorem dX8_begin_5 : decode cX8_begin 5 = .ok (.invokevirtual 58, 3) := by decide +kernel
theorem dX8_begin_8 : decode cX8_begin 8 = .ok (.aload_n 0, 1) := by decide +kernel
theorem dX8_begin_9 : decode cX8_begin 9 = .ok (.iconst 0, 1) := by decide +kernel
theorem dX8_begin_10 : decode cX8_begin 10 = .ok (.putfield 61, 3) := by decide +kernel
theorem dX8_begin_13 : decode cX8_begin 13 = .ok (.aload_n 0, 1) := by decide +kernel
theorem dX8_begin_14 : decode cX8_begin 14 = .ok (.bipush (-6), 2) := by decide +kernel
theorem dX8_begin_16 : decode cX8_begin 16 = .ok (.putfield 35, 3) := by decide +kernel
theorem dX8_begin_19 : decode cX8_begin 19 = .ok (.aload_n 0, 1) := by decide +kernel
theorem dX8_begin_20 : decode cX8_begin 20 = .ok (.bipush (-6), 2) := by decide +kernel
theorem dX8_begin_22 : decode cX8_begin 22 = .ok (.putfield 64, 3) := by decide +kernel
theorem dX8_begin_25 : decode cX8_begin 25 = .ok (.aload_n 0, 1) := by decide +kernel
theorem dX8_begin_26 : decode cX8_begin 26 = .ok (.iconst 0, 1) := by decide +kernel
theorem dX8_begin_27 : decode cX8_begin 27 = .ok (.putfield 67, 3) := by decide +kernel
theorem dX8_begin_30 : decode cX8_begin 30 = .ok (.aload_n 0, 1) := by decide +kernel
theorem dX8_begin_31 : decode cX8_begin 31 = .ok (.bipush (-6), 2) := by decide +kernel
theorem dX8_begin_33 : decode cX8_begin 33 = .ok (.putfield 70, 3) := by decide +kernel
theorem dX8_begin_36 : decode cX8_begin 36 = .ok (.aload_n 0, 1) := by decide +kernel
theorem dX8_begin_37 : decode cX8_begin 37 = .ok (.bipush (-6), 2) := by decide +kernel
theorem dX8_begin_39 : decode cX8_begin 39 = .ok (.putfield 73, 3) := by decide +kernel
theorem dX8_begin_42 : decode cX8_begin 42 = .ok (.return_, 1) := by decide +kernel
set_option maxRecDepth 20000 in
theorem ggX8_step_X7_whyNot : GoodIn wsX8_step wsX7_whyNot := goodIn_r _ [11, 12, 13, 14, 15, 16, 17, 18, 19, 20, 21, 10, 22, 23, 24, 25, 26, 27, 28, 29, 30, 31, 32, 33, 34, 35, 91, 92, 93, 94, 95, 96, 97, 98, 99, 100, 101] (by decide +kernel) (by decide +kernel)
set_option maxRecDepth 20000 in
theorem gX8_step_X7_whyNot : GoodIn wsX8_step (wsV RX8 50 RX7 yX7_whyNot wsX7_whyNot) := goodIn_app (goodIn_of _ (by decide +kernel)) ggX8_step_X7_whyNot
set_option maxRecDepth 20000 in
theorem ggX8_step_X7_isWon : GoodIn wsX8_step wsX7_isWon := goodIn_r _ [39, 12, 13, 19, 20, 21, 10, 22, 15, 23, 24, 25, 26, 27, 91, 92, 93, 94, 95, 96, 97, 98, 99, 100, 101] (by decide +kernel) (by decide +kernel)
set_option maxRecDepth 20000 in
theorem gX8_step_X7_isWon : GoodIn wsX8_step (wsV RX8 76 RX7 yX7_isWon wsX7_isWon) := goodIn_app (goodIn_of _ (by decide +kernel)) ggX8_step_X7_isWon
set_option maxRecDepth 20000 in
theorem ggX8_step_X7_wrongWatchers : GoodIn wsX8_step wsX7_wrongWatchers := goodIn_r _ [43, 44, 19, 20, 21, 10, 22, 15, 23, 24, 25, 26, 27, 96, 97, 98, 99, 100, 101] (by decide +kernel) (by decide +kernel)
set_option maxRecDepth 20000 in
theorem gX8_step_X7_wrongWatchers : GoodIn wsX8_step (wsV RX8 80 RX7 yX7_wrongWatchers wsX7_wrongWatchers) := goodIn_app (goodIn_of _ (by decide +kernel)) ggX8_step_X7_wrongWatchers
set_option maxRecDepth 20000 in
theorem ggX8_step_X7_perform : GoodIn wsX8_step wsX7_perform := goodIn_r _ [48, 12, 13, 14, 17, 15, 23, 16, 18, 49, 50, 51, 10, 52, 44, 53, 54, 55, 26, 56, 57, 58, 59, 60, 61, 62, 63, 19, 20, 21, 22, 24, 25, 27, 64, 65, 66, 67, 37, 38, 39, 68, 69, 70, 71, 32, 72, 73, 74, 75, 33, 34, 35, 91, 92, 93, 94, 95, 96, 97, 98, 99, 100, 101] (by decide +kernel) (by decide +kernel)
set_option maxRecDepth 20000 in
theorem gX8_step_X7_perform : GoodIn wsX8_step (wsV RX8 54 RX7 yX7_perform wsX7_perform) := goodIn_app (goodIn_of _ (by decide +kernel)) ggX8_step_X7_perform
set_option maxRecDepth 20000 in
theorem ggX8_step_X8_noteWrong : GoodIn wsX8_step wsX8_noteWrong := goodIn_r _ [80, 81, 3, 82, 83, 84, 85, 86, 87, 88, 89, 90] (by decide +kernel) (by decide +kernel)
set_option maxRecDepth 20000 in
theorem gX8_step_X8_noteWrong : GoodIn wsX8_step (wsV RX8 84 RX8 yX8_noteWrong wsX8_noteWrong) := goodIn_app (goodIn_of _ (by decide +kernel)) ggX8_step_X8_noteWrong
theorem dX8_step_0 : decode cX8_step 0 = .ok (.aload_n 0, 1) := by decide +kernel
theorem dX8_step_1 : decode cX8_step 1 = .ok (.getfield 12, 3) := by decide +kernel
theorem dX8_step_4 : decode cX8_step 4 = .ok (.aload_n 0, 1) := by decide +kernel
theorem dX8_step_5 : decode cX8_step 5 = .ok (.getfield 21, 3) := by decide +kernel
theorem dX8_step_8 : decode cX8_step 8 = .ok (.invokevirtual 50, 3) := by decide +kernel
theorem dX8_step_11 : decode cX8_step 11 = .ok (.istore_n 1, 1) := by decide +kernel
theorem dX8_step_12 : decode cX8_step 12 = .ok (.iload_n 1, 1) := by decide +kernel
theorem dX8_step_13 : decode cX8_step 13 = .ok (.ifCond .eq 17, 3) := by decide +kernel
theorem dX8_step_16 : decode cX8_step 16 = .ok (.aload_n 0, 1) := by decide +kernel
theorem dX8_step_17 : decode cX8_step 17 = .ok (.aload_n 0, 1) := by decide +kernel
theorem dX8_step_18 : decode cX8_step 18 = .ok (.getfield 61, 3) := by decide +kernel
theorem dX8_step_21 : decode cX8_step 21 = .ok (.putfield 35, 3) := by decide +kernel
theorem dX8_step_24 : decode cX8_step 24 = .ok (.aload_n 0, 1) := by decide +kernel
theorem dX8_step_25 : decode cX8_step 25 = .ok (.iload_n 1, 1) := by decide +kernel
theorem dX8_step_26 : decode cX8_step 26 = .ok (.putfield 64, 3) := by decide +kernel
theorem dX8_step_29 : decode cX8_step 29 = .ok (.return_, 1) := by decide +kernel
theorem dX8_step_30 : decode cX8_step 30 = .ok (.aload_n 0, 1) := by decide +kernel
theorem dX8_step_31 : decode cX8_step 31 = .ok (.getfield 12, 3) := by decide +kernel
theorem dX8_step_34 : decode cX8_step 34 = .ok (.aload_n 0, 1) := by decide +kernel
theorem dX8_step_35 : decode cX8_step 35 = .ok (.getfield 21, 3) := by decide +kernel
theorem dX8_step_38 : decode cX8_step 38 = .ok (.invokevirtual 76, 3) := by decide +kernel
theorem dX8_step_41 : decode cX8_step 41 = .ok (.ifCond .eq 13, 3) := by decide +kernel
theorem dX8_step_44 : decode cX8_step 44 = .ok (.aload_n 0, 1) := by decide +kernel
theorem dX8_step_45 : decode cX8_step 45 = .ok (.dup, 1) := by decide +kernel
theorem dX8_step_46 : decode cX8_step 46 = .ok (.getfield 67, 3) := by decide +kernel
theorem dX8_step_49 : decode cX8_step 49 = .ok (.iconst 1, 1) := by decide +kernel
theorem dX8_step_50 : decode cX8_step 50 = .ok (.iadd, 1) := by decide +kernel
theorem dX8_step_51 : decode cX8_step 51 = .ok (.putfield 67, 3) := by decide +kernel
theorem dX8_step_54 : decode cX8_step 54 = .ok (.aload_n 0, 1) := by decide +kernel
theorem dX8_step_55 : decode cX8_step 55 = .ok (.getfield 12, 3) := by decide +kernel
theorem dX8_step_58 : decode cX8_step 58 = .ok (.invokevirtual 80, 3) := by decide +kernel
theorem dX8_step_61 : decode cX8_step 61 = .ok (.istore_n 2, 1) := by decide +kernel
theorem dX8_step_62 : decode cX8_step 62 = .ok (.aload_n 0, 1) := by decide +kernel
theorem dX8_step_63 : decode cX8_step 63 = .ok (.getfield 12, 3) := by decide +kernel
theorem dX8_step_66 : decode cX8_step 66 = .ok (.aload_n 0, 1) := by decide +kernel
theorem dX8_step_67 : decode cX8_step 67 = .ok (.getfield 21, 3) := by decide +kernel
theorem dX8_step_70 : decode cX8_step 70 = .ok (.invokevirtual 54, 3) := by decide +kernel
theorem dX8_step_73 : decode cX8_step 73 = .ok (.aload_n 0, 1) := by decide +kernel
theorem dX8_step_74 : decode cX8_step 74 = .ok (.aload_n 0, 1) := by decide +kernel
theorem dX8_step_75 : decode cX8_step 75 = .ok (.getfield 12, 3) := by decide +kernel
theorem dX8_step_78 : decode cX8_step 78 = .ok (.invokevirtual 80, 3) := by decide +kernel
theorem dX8_step_81 : decode cX8_step 81 = .ok (.iload_n 2, 1) := by decide +kernel
theorem dX8_step_82 : decode cX8_step 82 = .ok (.iconst (-1), 1) := by decide +kernel
theorem dX8_step_83 : decode cX8_step 83 = .ok (.ixor, 1) := by decide +kernel
theorem dX8_step_84 : decode cX8_step 84 = .ok (.iand, 1) := by decide +kernel
theorem dX8_step_85 : decode cX8_step 85 = .ok (.invokevirtual 84, 3) := by decide +kernel
theorem dX8_step_88 : decode cX8_step 88 = .ok (.aload_n 0, 1) := by decide +kernel
theorem dX8_step_89 : decode cX8_step 89 = .ok (.dup, 1) := by decide +kernel
theorem dX8_step_90 : decode cX8_step 90 = .ok (.getfield 61, 3) := by decide +kernel
theorem dX8_step_93 : decode cX8_step 93 = .ok (.iconst 1, 1) := by decide +kernel
theorem dX8_step_94 : decode cX8_step 94 = .ok (.iadd, 1) := by decide +kernel
theorem dX8_step_95 : decode cX8_step 95 = .ok (.putfield 61, 3) := by decide +kernel
theorem dX8_step_98 : decode cX8_step 98 = .ok (.return_, 1) := by decide +kernel
theorem dX8_noteWrong_0 : decode cX8_noteWrong 0 = .ok (.iconst 0, 1) := by decide +kernel
theorem dX8_noteWrong_1 : decode cX8_noteWrong 1 = .ok (.istore_n 2, 1) := by decide +kernel
theorem dX8_noteWrong_2 : decode cX8_noteWrong 2 = .ok (.iload_n 2, 1) := by decide +kernel
theorem dX8_noteWrong_3 : decode cX8_noteWrong 3 = .ok (.iconst 4, 1) := by decide +kernel
theorem dX8_noteWrong_4 : decode cX8_noteWrong 4 = .ok (.if_icmp .ge 40, 3) := by decide +kernel
theorem dX8_noteWrong_7 : decode cX8_noteWrong 7 = .ok (.aload_n 0, 1) := by decide +kernel
theorem dX8_noteWrong_8 : decode cX8_noteWrong 8 = .ok (.getfield 70, 3) := by decide +kernel
theorem dX8_noteWrong_11 : decode cX8_noteWrong 11 = .ok (.bipush (-6), 2) := by decide +kernel
theorem dX8_noteWrong_13 : decode cX8_noteWrong 13 = .ok (.if_icmp .ne 31, 3) := by decide +kernel
theorem dX8_noteWrong_16 : decode cX8_noteWrong 16 = .ok (.iload_n 1, 1) := by decide +kernel
theorem dX8_noteWrong_17 : decode cX8_noteWrong 17 = .ok (.iload_n 2, 1) := by decide +kernel
theorem dX8_noteWrong_18 : decode cX8_noteWrong 18 = .ok (.ishr, 1) := by decide +kernel
theorem dX8_noteWrong_19 : decode cX8_noteWrong 19 = .ok (.iconst 1, 1) := by decide +kernel
theorem dX8_noteWrong_20 : decode cX8_noteWrong 20 = .ok (.iand, 1) := by decide +kernel
theorem dX8_noteWrong_21 : decode cX8_noteWrong 21 = .ok (.iconst 1, 1) := by decide +kernel
theorem dX8_noteWrong_22 : decode cX8_noteWrong 22 = .ok (.if_icmp .ne 16, 3) := by decide +kernel
theorem dX8_noteWrong_25 : decode cX8_noteWrong 25 = .ok (.aload_n 0, 1) := by decide +kernel
theorem dX8_noteWrong_26 : decode cX8_noteWrong 26 = .ok (.aload_n 0, 1) := by decide +kernel
theorem dX8_noteWrong_27 : decode cX8_noteWrong 27 = .ok (.getfield 61, 3) := by decide +kernel
theorem dX8_noteWrong_30 : decode cX8_noteWrong 30 = .ok (.putfield 70, 3) := by decide +kernel
theorem dX8_noteWrong_33 : decode cX8_noteWrong 33 = .ok (.aload_n 0, 1) := by decide +kernel
theorem dX8_noteWrong_34 : decode cX8_noteWrong 34 = .ok (.iload_n 2, 1) := by decide +kernel
theorem dX8_noteWrong_35 : decode cX8_noteWrong 35 = .ok (.putfield 73, 3) := by decide +kernel
theorem dX8_noteWrong_38 : decode cX8_noteWrong 38 = .ok (.iinc 2 1, 3) := by decide +kernel
theorem dX8_noteWrong_41 : decode cX8_noteWrong 41 = .ok (.goto (-39), 3) := by decide +kernel
theorem dX8_noteWrong_44 : decode cX8_noteWrong 44 = .ok (.return_, 1) := by decide +kernel
theorem dX8_ofText_0 : decode cX8_ofText 0 = .ok (.iload_n 1, 1) := by decide +kernel
theorem dX8_ofText_1 : decode cX8_ofText 1 = .ok (.lookupswitch 37 #[(0, 27), (1, 32)], 27) := by decide +kernel
theorem dX8_ofText_28 : decode cX8_ofText 28 = .ok (.aload_n 0, 1) := by decide +kernel
theorem dX8_ofText_29 : decode cX8_ofText 29 = .ok (.getfield 35, 3) := by decide +kernel
theorem dX8_ofText_32 : decode cX8_ofText 32 = .ok (.ireturn, 1) := by decide +kernel
theorem dX8_ofText_33 : decode cX8_ofText 33 = .ok (.aload_n 0, 1) := by decide +kernel
theorem dX8_ofText_34 : decode cX8_ofText 34 = .ok (.getfield 64, 3) := by decide +kernel
theorem dX8_ofText_37 : decode cX8_ofText 37 = .ok (.ireturn, 1) := by decide +kernel
theorem dX8_ofText_38 : decode cX8_ofText 38 = .ok (.aload_n 0, 1) := by decide +kernel
theorem dX8_ofText_39 : decode cX8_ofText 39 = .ok (.getfield 67, 3) := by decide +kernel
theorem dX8_ofText_42 : decode cX8_ofText 42 = .ok (.ireturn, 1) := by decide +kernel
set_option maxRecDepth 20000 in
theorem ggX8_ofWatcher_X7_thinksOf : GoodIn wsX8_ofWatcher wsX7_thinksOf := goodIn_r _ [6, 7, 8, 9, 10, 38, 39, 40, 41, 42, 43] (by decide +kernel) (by decide +kernel)
set_option maxRecDepth 20000 in
theorem gX8_ofWatcher_X7_thinksOf : GoodIn wsX8_ofWatcher (wsV RX8 87 RX7 yX7_thinksOf wsX7_thinksOf) := goodIn_app (goodIn_of _ (by decide +kernel)) ggX8_ofWatcher_X7_thinksOf
set_option maxRecDepth 20000 in
theorem ggX8_ofWatcher_X7_coinOf : GoodIn wsX8_ofWatcher wsX7_coinOf := goodIn_r _ [14, 15, 8, 9, 10, 38, 39, 40, 41, 42, 43] (by decide +kernel) (by decide +kernel)
set_option maxRecDepth 20000 in
theorem gX8_ofWatcher_X7_coinOf : GoodIn wsX8_ofWatcher (wsV RX8 91 RX7 yX7_coinOf wsX7_coinOf) := goodIn_app (goodIn_of _ (by decide +kernel)) ggX8_ofWatcher_X7_coinOf
set_option maxRecDepth 20000 in
theorem ggX8_ofWatcher_X7_wrongWatchers : GoodIn wsX8_ofWatcher wsX7_wrongWatchers := goodIn_r _ [19, 7, 20, 21, 22, 5, 23, 24, 25, 26, 27, 28, 29, 38, 39, 40, 41, 42, 43] (by decide +kernel) (by decide +kernel)
set_option maxRecDepth 20000 in
theorem gX8_ofWatcher_X7_wrongWatchers : GoodIn wsX8_ofWatcher (wsV RX8 80 RX7 yX7_wrongWatchers wsX7_wrongWatchers) := goodIn_app (goodIn_of _ (by decide +kernel)) ggX8_ofWatcher_X7_wrongWatchers
theorem dX8_ofWatcher_0 : decode cX8_ofWatcher 0 = .ok (.iload_n 2, 1) := by decide +kernel
theorem dX8_ofWatcher_1 : decode cX8_ofWatcher 1 = .ok (.lookupswitch 45 #[(0, 27), (1, 36)], 27) := by decide +kernel
theorem dX8_ofWatcher_28 : decode cX8_ofWatcher 28 = .ok (.aload_n 0, 1) := by decide +kernel
theorem dX8_ofWatcher_29 : decode cX8_ofWatcher 29 = .ok (.getfield 12, 3) := by decide +kernel
theorem dX8_ofWatcher_32 : decode cX8_ofWatcher 32 = .ok (.iload_n 1, 1) := by decide +kernel
theorem dX8_ofWatcher_33 : decode cX8_ofWatcher 33 = .ok (.invokevirtual 87, 3) := by decide +kernel
theorem dX8_ofWatcher_36 : decode cX8_ofWatcher 36 = .ok (.ireturn, 1) := by decide +kernel
theorem dX8_ofWatcher_37 : decode cX8_ofWatcher 37 = .ok (.aload_n 0, 1) := by decide +kernel
theorem dX8_ofWatcher_38 : decode cX8_ofWatcher 38 = .ok (.getfield 12, 3) := by decide +kernel
theorem dX8_ofWatcher_41 : decode cX8_ofWatcher 41 = .ok (.iload_n 1, 1) := by decide +kernel
theorem dX8_ofWatcher_42 : decode cX8_ofWatcher 42 = .ok (.invokevirtual 91, 3) := by decide +kernel
theorem dX8_ofWatcher_45 : decode cX8_ofWatcher 45 = .ok (.ireturn, 1) := by decide +kernel
theorem dX8_ofWatcher_46 : decode cX8_ofWatcher 46 = .ok (.aload_n 0, 1) := by decide +kernel
theorem dX8_ofWatcher_47 : decode cX8_ofWatcher 47 = .ok (.getfield 12, 3) := by decide +kernel
theorem dX8_ofWatcher_50 : decode cX8_ofWatcher 50 = .ok (.invokevirtual 80, 3) := by decide +kernel
theorem dX8_ofWatcher_53 : decode cX8_ofWatcher 53 = .ok (.iload_n 1, 1) := by decide +kernel
theorem dX8_ofWatcher_54 : decode cX8_ofWatcher 54 = .ok (.ishr, 1) := by decide +kernel
theorem dX8_ofWatcher_55 : decode cX8_ofWatcher 55 = .ok (.iconst 1, 1) := by decide +kernel
theorem dX8_ofWatcher_56 : decode cX8_ofWatcher 56 = .ok (.iand, 1) := by decide +kernel
theorem dX8_ofWatcher_57 : decode cX8_ofWatcher 57 = .ok (.ireturn, 1) := by decide +kernel
set_option maxRecDepth 20000 in
theorem ggX8_ofPea_X7_peaPlace : GoodIn wsX8_ofPea wsX7_peaPlace := goodIn_r _ [6, 7, 8, 9, 10, 11, 12, 25, 26, 27, 28, 29, 30] (by decide +kernel) (by decide +kernel)
set_option maxRecDepth 20000 in
theorem gX8_ofPea_X7_peaPlace : GoodIn wsX8_ofPea (wsV RX8 94 RX7 yX7_peaPlace wsX7_peaPlace) := goodIn_app (goodIn_of _ (by decide +kernel)) ggX8_ofPea_X7_peaPlace
set_option maxRecDepth 20000 in
theorem ggX8_ofPea_X7_peaCupOrNone : GoodIn wsX8_ofPea wsX7_peaCupOrNone := goodIn_r _ [16, 7, 25, 26, 27, 28, 29, 30] (by decide +kernel) (by decide +kernel)
set_option maxRecDepth 20000 in
theorem gX8_ofPea_X7_peaCupOrNone : GoodIn wsX8_ofPea (wsV RX8 97 RX7 yX7_peaCupOrNone wsX7_peaCupOrNone) := goodIn_app (goodIn_of _ (by decide +kernel)) ggX8_ofPea_X7_peaCupOrNone
theorem dX8_ofPea_0 : decode cX8_ofPea 0 = .ok (.iload_n 1, 1) := by decide +kernel
theorem dX8_ofPea_1 : decode cX8_ofPea 1 = .ok (.ifCond .ne 13, 3) := by decide +kernel
theorem dX8_ofPea_4 : decode cX8_ofPea 4 = .ok (.aload_n 0, 1) := by decide +kernel
theorem dX8_ofPea_5 : decode cX8_ofPea 5 = .ok (.getfield 12, 3) := by decide +kernel
theorem dX8_ofPea_8 : decode cX8_ofPea 8 = .ok (.invokevirtual 94, 3) := by decide +kernel
theorem dX8_ofPea_11 : decode cX8_ofPea 11 = .ok (.goto 10, 3) := by decide +kernel
theorem dX8_ofPea_14 : decode cX8_ofPea 14 = .ok (.aload_n 0, 1) := by decide +kernel
theorem dX8_ofPea_15 : decode cX8_ofPea 15 = .ok (.getfield 12, 3) := by decide +kernel
theorem dX8_ofPea_18 : decode cX8_ofPea 18 = .ok (.invokevirtual 97, 3) := by decide +kernel
theorem dX8_ofPea_21 : decode cX8_ofPea 21 = .ok (.ireturn, 1) := by decide +kernel
theorem dX8_ofFirstWrong_0 : decode cX8_ofFirstWrong 0 = .ok (.iload_n 1, 1) := by decide +kernel
theorem dX8_ofFirstWrong_1 : decode cX8_ofFirstWrong 1 = .ok (.lookupswitch 37 #[(0, 27), (1, 32)], 27) := by decide +kernel
theorem dX8_ofFirstWrong_28 : decode cX8_ofFirstWrong 28 = .ok (.aload_n 0, 1) := by decide +kernel
theorem dX8_ofFirstWrong_29 : decode cX8_ofFirstWrong 29 = .ok (.getfield 70, 3) := by decide +kernel
theorem dX8_ofFirstWrong_32 : decode cX8_ofFirstWrong 32 = .ok (.ireturn, 1) := by decide +kernel
theorem dX8_ofFirstWrong_33 : decode cX8_ofFirstWrong 33 = .ok (.aload_n 0, 1) := by decide +kernel
theorem dX8_ofFirstWrong_34 : decode cX8_ofFirstWrong 34 = .ok (.getfield 73, 3) := by decide +kernel
theorem dX8_ofFirstWrong_37 : decode cX8_ofFirstWrong 37 = .ok (.ireturn, 1) := by decide +kernel
theorem dX8_ofFirstWrong_38 : decode cX8_ofFirstWrong 38 = .ok (.aload_n 0, 1) := by decide +kernel
theorem dX8_ofFirstWrong_39 : decode cX8_ofFirstWrong 39 = .ok (.getfield 12, 3) := by decide +kernel
theorem dX8_ofFirstWrong_42 : decode cX8_ofFirstWrong 42 = .ok (.getfield 100, 3) := by decide +kernel
theorem dX8_ofFirstWrong_45 : decode cX8_ofFirstWrong 45 = .ok (.ireturn, 1) := by decide +kernel
set_option maxRecDepth 20000 in
theorem ggX8_ofYear_X7_peaPlace : GoodIn wsX8_ofYear wsX7_peaPlace := goodIn_r _ [6, 7, 8, 9, 10, 11, 12, 42, 43, 44, 45, 46, 47] (by decide +kernel) (by decide +kernel)
set_option maxRecDepth 20000 in
theorem gX8_ofYear_X7_peaPlace : GoodIn wsX8_ofYear (wsV RX8 94 RX7 yX7_peaPlace wsX7_peaPlace) := goodIn_app (goodIn_of _ (by decide +kernel)) ggX8_ofYear_X7_peaPlace
set_option maxRecDepth 20000 in
theorem ggX8_ofYear_X7_wrongWatchers : GoodIn wsX8_ofYear wsX7_wrongWatchers := goodIn_r _ [16, 17, 18, 3, 4, 5, 6, 7, 8, 9, 10, 11, 12, 42, 43, 44, 45, 46, 47] (by decide +kernel) (by decide +kernel)
set_option maxRecDepth 20000 in
theorem gX8_ofYear_X7_wrongWatchers : GoodIn wsX8_ofYear (wsV RX8 80 RX7 yX7_wrongWatchers wsX7_wrongWatchers) := goodIn_app (goodIn_of _ (by decide +kernel)) ggX8_ofYear_X7_wrongWatchers
set_option maxRecDepth 20000 in
theorem ggX8_ofYear_J6_bitCount_0f7a4 : GoodIn wsX8_ofYear wsJ6_bitCount_0f7a4 := goodIn_r _ [22, 23, 24, 25] (by decide +kernel) (by decide +kernel)
set_option maxRecDepth 20000 in
theorem gX8_ofYear_J6_bitCount_0f7a4 : GoodIn wsX8_ofYear (va_wsS RX8 103 yJ6_bitCount_0f7a4 wsJ6_bitCount_0f7a4) := goodIn_app (goodIn_of _ (by decide +kernel)) ggX8_ofYear_J6_bitCount_0f7a4
set_option maxRecDepth 20000 in
theorem ggX8_ofYear_X7_coinOf : GoodIn wsX8_ofYear wsX7_coinOf := goodIn_r _ [29, 30, 31, 32, 33, 42, 43, 44, 45, 46, 47] (by decide +kernel) (by decide +kernel)
set_option maxRecDepth 20000 in
theorem gX8_ofYear_X7_coinOf : GoodIn wsX8_ofYear (wsV RX8 91 RX7 yX7_coinOf wsX7_coinOf) := goodIn_app (goodIn_of _ (by decide +kernel)) ggX8_ofYear_X7_coinOf
theorem dX8_ofYear_0 : decode cX8_ofYear 0 = .ok (.iload_n 1, 1) := by decide +kernel
theorem dX8_ofYear_1 : decode cX8_ofYear 1 = .ok (.lookupswitch 46 #[(0, 27), (1, 35)], 27) := by decide +kernel
theorem dX8_ofYear_28 : decode cX8_ofYear 28 = .ok (.aload_n 0, 1) := by decide +kernel
theorem dX8_ofYear_29 : decode cX8_ofYear 29 = .ok (.getfield 12, 3) := by decide +kernel
theorem dX8_ofYear_32 : decode cX8_ofYear 32 = .ok (.invokevirtual 94, 3) := by decide +kernel
theorem dX8_ofYear_35 : decode cX8_ofYear 35 = .ok (.ireturn, 1) := by decide +kernel
theorem dX8_ofYear_36 : decode cX8_ofYear 36 = .ok (.aload_n 0, 1) := by decide +kernel
theorem dX8_ofYear_37 : decode cX8_ofYear 37 = .ok (.getfield 12, 3) := by decide +kernel
theorem dX8_ofYear_40 : decode cX8_ofYear 40 = .ok (.invokevirtual 80, 3) := by decide +kernel
theorem dX8_ofYear_43 : decode cX8_ofYear 43 = .ok (.invokestatic 103, 3) := by decide +kernel
theorem dX8_ofYear_46 : decode cX8_ofYear 46 = .ok (.ireturn, 1) := by decide +kernel
theorem dX8_ofYear_47 : decode cX8_ofYear 47 = .ok (.aload_n 0, 1) := by decide +kernel
theorem dX8_ofYear_48 : decode cX8_ofYear 48 = .ok (.getfield 12, 3) := by decide +kernel
theorem dX8_ofYear_51 : decode cX8_ofYear 51 = .ok (.iconst 0, 1) := by decide +kernel
theorem dX8_ofYear_52 : decode cX8_ofYear 52 = .ok (.invokevirtual 91, 3) := by decide +kernel
theorem dX8_ofYear_55 : decode cX8_ofYear 55 = .ok (.ireturn, 1) := by decide +kernel
set_option maxRecDepth 20000 in
theorem ggX9_init_X3_init : GoodIn wsX9_init wsX3_init := goodIn_r _ [33, 34, 2, 3, 35, 36, 82, 83] (by decide +kernel) (by decide +kernel)
set_option maxRecDepth 20000 in
theorem gX9_init_X3_init_n9 : GoodIn wsX9_init (wsX3_init) := ggX9_init_X3_init
set_option maxRecDepth 20000 in
theorem ggX9_init_X7_init : GoodIn wsX9_init wsX7_init := goodIn_r _ [38, 39, 2, 3, 40, 41, 42, 43, 35, 44, 45, 46, 91, 92, 93, 94, 95, 96] (by decide +kernel) (by decide +kernel)
set_option maxRecDepth 20000 in
theorem gX9_init_X7_init_n18 : GoodIn wsX9_init (wsX7_init) := ggX9_init_X7_init
set_option maxRecDepth 20000 in
theorem ggX9_init_X8_init : GoodIn wsX9_init wsX8_init := goodIn_r _ [48, 49, 2, 3, 50, 9, 10, 51, 52, 53, 54, 55, 37, 38, 39, 40, 41, 42, 43, 35, 44, 45, 46, 56, 57, 58, 91, 92, 93, 94, 95, 96, 97, 98, 99, 100, 101, 102, 103, 104, 117, 118, 119, 120, 121] (by decide +kernel) (by decide +kernel)
set_option maxRecDepth 20000 in
theorem gX9_init_X8_init_n25 : GoodIn wsX9_init (wsX8_init) := ggX9_init_X8_init
set_option maxRecDepth 20000 in
theorem ggX9_init_X5_init : GoodIn wsX9_init wsX5_init := goodIn_r _ [60, 61, 2, 3, 35, 62, 63, 64, 105, 106, 107, 108] (by decide +kernel) (by decide +kernel)
set_option maxRecDepth 20000 in
theorem gX9_init_X5_init_n32 : GoodIn wsX9_init (wsX5_init) := ggX9_init_X5_init
set_option maxRecDepth 20000 in
theorem ggX9_init_X4_init : GoodIn wsX9_init wsX4_init := goodIn_r _ [66, 67, 2, 3, 35, 68, 69, 109, 110, 111] (by decide +kernel) (by decide +kernel)
set_option maxRecDepth 20000 in
theorem gX9_init_X4_init_n39 : GoodIn wsX9_init (wsX4_init) := ggX9_init_X4_init
set_option maxRecDepth 20000 in
theorem ggX9_init_X6_init : GoodIn wsX9_init wsX6_init := goodIn_r _ [71, 72, 2, 3, 73, 74, 112, 113] (by decide +kernel) (by decide +kernel)
set_option maxRecDepth 20000 in
theorem gX9_init_X6_init_n46 : GoodIn wsX9_init (wsX6_init) := ggX9_init_X6_init
set_option maxRecDepth 20000 in
theorem ggX9_init_X1_init : GoodIn wsX9_init wsX1_init := goodIn_r _ [76, 77, 2, 3, 78, 9, 10, 79, 80, 17, 18, 81, 37, 38, 39, 40, 41, 42, 43, 35, 44, 45, 46, 59, 60, 61, 62, 63, 64, 91, 92, 93, 94, 95, 96, 114, 115, 116, 105, 106, 107, 108] (by decide +kernel) (by decide +kernel)
set_option maxRecDepth 20000 in
theorem gX9_init_X1_init_n57 : GoodIn wsX9_init (wsX1_init) := ggX9_init_X1_init
theorem dX9_init_0 : decode cX9_init 0 = .ok (.aload_n 0, 1) := by decide +kernel
theorem dX9_init_1 : decode cX9_init 1 = .ok (.invokespecial 1, 3) := by decide +kernel
theorem dX9_init_4 : decode cX9_init 4 = .ok (.aload_n 0, 1) := by decide +kernel
theorem dX9_init_5 : decode cX9_init 5 = .ok (.new 7, 3) := by decide +kernel
theorem dX9_init_8 : decode cX9_init 8 = .ok (.dup, 1) := by decide +kernel
theorem dX9_init_9 : decode cX9_init 9 = .ok (.invokespecial 9, 3) := by decide +kernel
theorem dX9_init_12 : decode cX9_init 12 = .ok (.putfield 10, 3) := by decide +kernel
theorem dX9_init_15 : decode cX9_init 15 = .ok (.aload_n 0, 1) := by decide +kernel
theorem dX9_init_16 : decode cX9_init 16 = .ok (.new 16, 3) := by decide +kernel
theorem dX9_init_19 : decode cX9_init 19 = .ok (.dup, 1) := by decide +kernel
theorem dX9_init_20 : decode cX9_init 20 = .ok (.invokespecial 18, 3) := by decide +kernel
theorem dX9_init_23 : decode cX9_init 23 = .ok (.putfield 19, 3) := by decide +kernel
theorem dX9_init_26 : decode cX9_init 26 = .ok (.aload_n 0, 1) := by decide +kernel
theorem dX9_init_27 : decode cX9_init 27 = .ok (.new 23, 3) := by decide +kernel
theorem dX9_init_30 : decode cX9_init 30 = .ok (.dup, 1) := by decide +kernel
theorem dX9_init_31 : decode cX9_init 31 = .ok (.invokespecial 25, 3) := by decide +kernel
theorem dX9_init_34 : decode cX9_init 34 = .ok (.putfield 26, 3) := by decide +kernel
theorem dX9_init_37 : decode cX9_init 37 = .ok (.aload_n 0, 1) := by decide +kernel
theorem dX9_init_38 : decode cX9_init 38 = .ok (.new 30, 3) := by decide +kernel
theorem dX9_init_41 : decode cX9_init 41 = .ok (.dup, 1) := by decide +kernel
theorem dX9_init_42 : decode cX9_init 42 = .ok (.invokespecial 32, 3) := by decide +kernel
theorem dX9_init_45 : decode cX9_init 45 = .ok (.putfield 33, 3) := by decide +kernel
theorem dX9_init_48 : decode cX9_init 48 = .ok (.aload_n 0, 1) := by decide +kernel
theorem dX9_init_49 : decode cX9_init 49 = .ok (.new 37, 3) := by decide +kernel
theorem dX9_init_52 : decode cX9_init 52 = .ok (.dup, 1) := by decide +kernel
theorem dX9_init_53 : decode cX9_init 53 = .ok (.invokespecial 39, 3) := by decide +kernel
theorem dX9_init_56 : decode cX9_init 56 = .ok (.putfield 40, 3) := by decide +kernel
theorem dX9_init_59 : decode cX9_init 59 = .ok (.aload_n 0, 1) := by decide +kernel
theorem dX9_init_60 : decode cX9_init 60 = .ok (.new 44, 3) := by decide +kernel
theorem dX9_init_63 : decode cX9_init 63 = .ok (.dup, 1) := by decide +kernel
theorem dX9_init_64 : decode cX9_init 64 = .ok (.invokespecial 46, 3) := by decide +kernel
theorem dX9_init_67 : decode cX9_init 67 = .ok (.putfield 47, 3) := by decide +kernel
theorem dX9_init_70 : decode cX9_init 70 = .ok (.aload_n 0, 1) := by decide +kernel
theorem dX9_init_71 : decode cX9_init 71 = .ok (.iconst 2, 1) := by decide +kernel
theorem dX9_init_72 : decode cX9_init 72 = .ok (.anewarray 51, 3) := by decide +kernel
theorem dX9_init_75 : decode cX9_init 75 = .ok (.putfield 53, 3) := by decide +kernel
theorem dX9_init_78 : decode cX9_init 78 = .ok (.iconst 0, 1) := by decide +kernel
theorem dX9_init_79 : decode cX9_init 79 = .ok (.istore_n 1, 1) := by decide +kernel
theorem dX9_init_80 : decode cX9_init 80 = .ok (.iload_n 1, 1) := by decide +kernel
theorem dX9_init_81 : decode cX9_init 81 = .ok (.iconst 2, 1) := by decide +kernel
theorem dX9_init_82 : decode cX9_init 82 = .ok (.if_icmp .ge 22, 3) := by decide +kernel
theorem dX9_init_85 : decode cX9_init 85 = .ok (.aload_n 0, 1) := by decide +kernel
theorem dX9_init_86 : decode cX9_init 86 = .ok (.getfield 53, 3) := by decide +kernel
theorem dX9_init_89 : decode cX9_init 89 = .ok (.iload_n 1, 1) := by decide +kernel
theorem dX9_init_90 : decode cX9_init 90 = .ok (.new 51, 3) := by decide +kernel
theorem dX9_init_93 : decode cX9_init 93 = .ok (.dup, 1) := by decide +kernel
theorem dX9_init_94 : decode cX9_init 94 = .ok (.invokespecial 57, 3) := by decide +kernel
theorem dX9_init_97 : decode cX9_init 97 = .ok (.aastore, 1) := by decide +kernel
theorem dX9_init_98 : decode cX9_init 98 = .ok (.iinc 1 1, 3) := by decide +kernel
theorem dX9_init_101 : decode cX9_init 101 = .ok (.goto (-21), 3) := by decide +kernel
theorem dX9_init_104 : decode cX9_init 104 = .ok (.return_, 1) := by decide +kernel
set_option maxRecDepth 20000 in
theorem ggX9_cups_X9_isPlace : GoodIn wsX9_cups wsX9_isPlace := goodIn_r _ [7] (by decide +kernel) (by decide +kernel)
set_option maxRecDepth 20000 in
theorem gX9_cups_X9_isPlace : GoodIn wsX9_cups (va_wsS RX9 58 yX9_isPlace wsX9_isPlace) := goodIn_app (goodIn_of _ (by decide +kernel)) ggX9_cups_X9_isPlace
set_option maxRecDepth 20000 in
theorem ggX9_cups_X2_ofRow : GoodIn wsX9_cups wsX2_ofRow := goodIn_r _ [11, 12, 13, 6, 14] (by decide +kernel) (by decide +kernel)
set_option maxRecDepth 20000 in
theorem gX9_cups_X2_ofRow : GoodIn wsX9_cups (va_wsS RX9 62 yX2_ofRow wsX2_ofRow) := goodIn_app (goodIn_of _ (by decide +kernel)) ggX9_cups_X2_ofRow
set_option maxRecDepth 20000 in
theorem ggX9_cups_X2_toRow : GoodIn wsX9_cups wsX2_toRow := goodIn_r _ [17, 18, 19, 10, 20] (by decide +kernel) (by decide +kernel)
set_option maxRecDepth 20000 in
theorem gX9_cups_X2_toRow : GoodIn wsX9_cups (va_wsS RX9 72 yX2_toRow wsX2_toRow) := goodIn_app (goodIn_of _ (by decide +kernel)) ggX9_cups_X2_toRow
theorem dX9_cups_0 : decode cX9_cups 0 = .ok (.iload_n 2, 1) := by decide +kernel
theorem dX9_cups_1 : decode cX9_cups 1 = .ok (.iconst (-1), 1) := by decide +kernel
theorem dX9_cups_2 : decode cX9_cups 2 = .ok (.if_icmp .eq 12, 3) := by decide +kernel
theorem dX9_cups_5 : decode cX9_cups 5 = .ok (.iload_n 2, 1) := by decide +kernel
theorem dX9_cups_6 : decode cX9_cups 6 = .ok (.invokestatic 58, 3) := by decide +kernel
theorem dX9_cups_9 : decode cX9_cups 9 = .ok (.ifCond .ne 5, 3) := by decide +kernel
theorem dX9_cups_12 : decode cX9_cups 12 = .ok (.iconst (-1), 1) := by decide +kernel
theorem dX9_cups_13 : decode cX9_cups 13 = .ok (.ireturn, 1) := by decide +kernel
theorem dX9_cups_14 : decode cX9_cups 14 = .ok (.iload_n 1, 1) := by decide +kernel
theorem dX9_cups_15 : decode cX9_cups 15 = .ok (.invokestatic 62, 3) := by decide +kernel
theorem dX9_cups_18 : decode cX9_cups 18 = .ok (.istore_n 3, 1) := by decide +kernel
theorem dX9_cups_19 : decode cX9_cups 19 = .ok (.iload_n 3, 1) := by decide +kernel
theorem dX9_cups_20 : decode cX9_cups 20 = .ok (.bipush (-6), 2) := by decide +kernel
theorem dX9_cups_22 : decode cX9_cups 22 = .ok (.if_icmp .ne 6, 3) := by decide +kernel
theorem dX9_cups_25 : decode cX9_cups 25 = .ok (.bipush (-2), 2) := by decide +kernel
theorem dX9_cups_27 : decode cX9_cups 27 = .ok (.ireturn, 1) := by decide +kernel
theorem dX9_cups_28 : decode cX9_cups 28 = .ok (.aload_n 0, 1) := by decide +kernel
theorem dX9_cups_29 : decode cX9_cups 29 = .ok (.getfield 19, 3) := by decide +kernel
theorem dX9_cups_32 : decode cX9_cups 32 = .ok (.getfield 68, 3) := by decide +kernel
theorem dX9_cups_35 : decode cX9_cups 35 = .ok (.invokestatic 72, 3) := by decide +kernel
theorem dX9_cups_38 : decode cX9_cups 38 = .ok (.istore 4, 2) := by decide +kernel
theorem dX9_cups_40 : decode cX9_cups 40 = .ok (.aload_n 0, 1) := by decide +kernel
theorem dX9_cups_41 : decode cX9_cups 41 = .ok (.getfield 19, 3) := by decide +kernel
theorem dX9_cups_44 : decode cX9_cups 44 = .ok (.iload_n 3, 1) := by decide +kernel
theorem dX9_cups_45 : decode cX9_cups 45 = .ok (.putfield 68, 3) := by decide +kernel
theorem dX9_cups_48 : decode cX9_cups 48 = .ok (.aload_n 0, 1) := by decide +kernel
theorem dX9_cups_49 : decode cX9_cups 49 = .ok (.getfield 19, 3) := by decide +kernel
theorem dX9_cups_52 : decode cX9_cups 52 = .ok (.iload_n 2, 1) := by decide +kernel
theorem dX9_cups_53 : decode cX9_cups 53 = .ok (.putfield 75, 3) := by decide +kernel
theorem dX9_cups_56 : decode cX9_cups 56 = .ok (.iload 4, 2) := by decide +kernel
theorem dX9_cups_58 : decode cX9_cups 58 = .ok (.ireturn, 1) := by decide +kernel
set_option maxRecDepth 20000 in
theorem ggX9_watcher_X9_isWatcher : GoodIn wsX9_watcher wsX9_isWatcher := goodIn_r _ [5] (by decide +kernel) (by decide +kernel)
set_option maxRecDepth 20000 in
theorem gX9_watcher_X9_isWatcher : GoodIn wsX9_watcher (va_wsS RX9 78 yX9_isWatcher wsX9_isWatcher) := goodIn_app (goodIn_of _ (by decide +kernel)) ggX9_watcher_X9_isWatcher
set_option maxRecDepth 20000 in
theorem ggX9_watcher_X9_isWithin : GoodIn wsX9_watcher wsX9_isWithin := goodIn_r _ [8] (by decide +kernel) (by decide +kernel)
set_option maxRecDepth 20000 in
theorem gX9_watcher_X9_isWithin : GoodIn wsX9_watcher (va_wsS RX9 81 yX9_isWithin wsX9_isWithin) := goodIn_app (goodIn_of _ (by decide +kernel)) ggX9_watcher_X9_isWithin
set_option maxRecDepth 20000 in
theorem ggX9_watcher_X7_coinOf : GoodIn wsX9_watcher wsX7_coinOf := goodIn_r _ [13, 14, 3, 4, 5, 28, 29, 30, 31, 32, 33] (by decide +kernel) (by decide +kernel)
set_option maxRecDepth 20000 in
theorem gX9_watcher_X7_coinOf : GoodIn wsX9_watcher (wsV RX9 85 RX7 yX7_coinOf wsX7_coinOf) := goodIn_app (goodIn_of _ (by decide +kernel)) ggX9_watcher_X7_coinOf
set_option maxRecDepth 20000 in
theorem ggX9_watcher_X7_setWatcher : GoodIn wsX9_watcher wsX7_setWatcher := goodIn_r _ [18, 19, 14, 20, 3, 4, 5, 28, 29, 30, 31, 32, 33] (by decide +kernel) (by decide +kernel)
set_option maxRecDepth 20000 in
theorem gX9_watcher_X7_setWatcher : GoodIn wsX9_watcher (wsV RX9 88 RX7 yX7_setWatcher wsX7_setWatcher) := goodIn_app (goodIn_of _ (by decide +kernel)) ggX9_watcher_X7_setWatcher
theorem dX9_watcher_0 : decode cX9_watcher 0 = .ok (.iload_n 1, 1) := by decide +kernel
theorem dX9_watcher_1 : decode cX9_watcher 1 = .ok (.invokestatic 78, 3) := by decide +kernel
theorem dX9_watcher_4 : decode cX9_watcher 4 = .ok (.ifCond .ne 5, 3) := by decide +kernel
theorem dX9_watcher_7 : decode cX9_watcher 7 = .ok (.iconst (-1), 1) := by decide +kernel
theorem dX9_watcher_8 : decode cX9_watcher 8 = .ok (.ireturn, 1) := by decide +kernel
theorem dX9_watcher_9 : decode cX9_watcher 9 = .ok (.iload_n 2, 1) := by decide +kernel
theorem dX9_watcher_10 : decode cX9_watcher 10 = .ok (.iconst 1, 1) := by decide +kernel
theorem dX9_watcher_11 : decode cX9_watcher 11 = .ok (.bipush 9, 2) := by decide +kernel
theorem dX9_watcher_13 : decode cX9_watcher 13 = .ok (.invokestatic 81, 3) := by decide +kernel
theorem dX9_watcher_16 : decode cX9_watcher 16 = .ok (.ifCond .eq 25, 3) := by decide +kernel
theorem dX9_watcher_19 : decode cX9_watcher 19 = .ok (.iload_n 3, 1) := by decide +kernel
theorem dX9_watcher_20 : decode cX9_watcher 20 = .ok (.iconst 0, 1) := by decide +kernel
theorem dX9_watcher_21 : decode cX9_watcher 21 = .ok (.sipush 999, 3) := by decide +kernel
theorem dX9_watcher_24 : decode cX9_watcher 24 = .ok (.invokestatic 81, 3) := by decide +kernel
theorem dX9_watcher_27 : decode cX9_watcher 27 = .ok (.ifCond .eq 14, 3) := by decide +kernel
theorem dX9_watcher_30 : decode cX9_watcher 30 = .ok (.iload 4, 2) := by decide +kernel
theorem dX9_watcher_32 : decode cX9_watcher 32 = .ok (.iconst 1, 1) := by decide +kernel
theorem dX9_watcher_33 : decode cX9_watcher 33 = .ok (.bipush 63, 2) := by decide +kernel
theorem dX9_watcher_35 : decode cX9_watcher 35 = .ok (.invokestatic 81, 3) := by decide +kernel
theorem dX9_watcher_38 : decode cX9_watcher 38 = .ok (.ifCond .ne 6, 3) := by decide +kernel
theorem dX9_watcher_41 : decode cX9_watcher 41 = .ok (.bipush (-2), 2) := by decide +kernel
theorem dX9_watcher_43 : decode cX9_watcher 43 = .ok (.ireturn, 1) := by decide +kernel
theorem dX9_watcher_44 : decode cX9_watcher 44 = .ok (.aload_n 0, 1) := by decide +kernel
theorem dX9_watcher_45 : decode cX9_watcher 45 = .ok (.getfield 19, 3) := by decide +kernel
theorem dX9_watcher_48 : decode cX9_watcher 48 = .ok (.iload_n 1, 1) := by decide +kernel
theorem dX9_watcher_49 : decode cX9_watcher 49 = .ok (.invokevirtual 85, 3) := by decide +kernel
theorem dX9_watcher_52 : decode cX9_watcher 52 = .ok (.istore 5, 2) := by decide +kernel
theorem dX9_watcher_54 : decode cX9_watcher 54 = .ok (.aload_n 0, 1) := by decide +kernel
theorem dX9_watcher_55 : decode cX9_watcher 55 = .ok (.getfield 19, 3) := by decide +kernel
theorem dX9_watcher_58 : decode cX9_watcher 58 = .ok (.iload_n 1, 1) := by decide +kernel
theorem dX9_watcher_59 : decode cX9_watcher 59 = .ok (.iload_n 2, 1) := by decide +kernel
theorem dX9_watcher_60 : decode cX9_watcher 60 = .ok (.iload_n 3, 1) := by decide +kernel
theorem dX9_watcher_61 : decode cX9_watcher 61 = .ok (.iload 4, 2) := by decide +kernel
theorem dX9_watcher_63 : decode cX9_watcher 63 = .ok (.invokevirtual 88, 3) := by decide +kernel
theorem dX9_watcher_66 : decode cX9_watcher 66 = .ok (.iload 5, 2) := by decide +kernel
theorem dX9_watcher_68 : decode cX9_watcher 68 = .ok (.ireturn, 1) := by decide +kernel
set_option maxRecDepth 20000 in
theorem ggX9_say_X9_isWithin : GoodIn wsX9_say wsX9_isWithin := goodIn_r _ [6] (by decide +kernel) (by decide +kernel)
set_option maxRecDepth 20000 in
theorem gX9_say_X9_isWithin : GoodIn wsX9_say (va_wsS RX9 81 yX9_isWithin wsX9_isWithin) := goodIn_app (goodIn_of _ (by decide +kernel)) ggX9_say_X9_isWithin
set_option maxRecDepth 20000 in
theorem ggX9_say_X3_append : GoodIn wsX9_say wsX3_append := goodIn_r _ [11, 12, 13, 21, 22] (by decide +kernel) (by decide +kernel)
set_option maxRecDepth 20000 in
theorem gX9_say_X3_append : GoodIn wsX9_say (wsV RX9 92 RX3 yX3_append wsX3_append) := goodIn_app (goodIn_of _ (by decide +kernel)) ggX9_say_X3_append
theorem dX9_say_0 : decode cX9_say 0 = .ok (.iload_n 1, 1) := by decide +kernel
theorem dX9_say_1 : decode cX9_say 1 = .ok (.bipush 33, 2) := by decide +kernel
theorem dX9_say_3 : decode cX9_say 3 = .ok (.bipush 126, 2) := by decide +kernel
theorem dX9_say_5 : decode cX9_say 5 = .ok (.invokestatic 81, 3) := by decide +kernel
theorem dX9_say_8 : decode cX9_say 8 = .ok (.ifCond .ne 6, 3) := by decide +kernel
theorem dX9_say_11 : decode cX9_say 11 = .ok (.bipush (-2), 2) := by decide +kernel
theorem dX9_say_13 : decode cX9_say 13 = .ok (.ireturn, 1) := by decide +kernel
theorem dX9_say_14 : decode cX9_say 14 = .ok (.aload_n 0, 1) := by decide +kernel
theorem dX9_say_15 : decode cX9_say 15 = .ok (.getfield 10, 3) := by decide +kernel
theorem dX9_say_18 : decode cX9_say 18 = .ok (.iload_n 1, 1) := by decide +kernel
theorem dX9_say_19 : decode cX9_say 19 = .ok (.invokevirtual 92, 3) := by decide +kernel
theorem dX9_say_22 : decode cX9_say 22 = .ok (.ifCond .eq 13, 3) := by decide +kernel
theorem dX9_say_25 : decode cX9_say 25 = .ok (.aload_n 0, 1) := by decide +kernel
theorem dX9_say_26 : decode cX9_say 26 = .ok (.getfield 10, 3) := by decide +kernel
theorem dX9_say_29 : decode cX9_say 29 = .ok (.getfield 95, 3) := by decide +kernel
theorem dX9_say_32 : decode cX9_say 32 = .ok (.goto 5, 3) := by decide +kernel
theorem dX9_say_35 : decode cX9_say 35 = .ok (.bipush (-4), 2) := by decide +kernel
theorem dX9_say_37 : decode cX9_say 37 = .ok (.ireturn, 1) := by decide +kernel
theorem dX9_wipe_0 : decode cX9_wipe 0 = .ok (.aload_n 0, 1) := by decide +kernel
theorem dX9_wipe_1 : decode cX9_wipe 1 = .ok (.getfield 10, 3) := by decide +kernel
theorem dX9_wipe_4 : decode cX9_wipe 4 = .ok (.getfield 95, 3) := by decide +kernel
theorem dX9_wipe_7 : decode cX9_wipe 7 = .ok (.istore_n 1, 1) := by decide +kernel
theorem dX9_wipe_8 : decode cX9_wipe 8 = .ok (.aload_n 0, 1) := by decide +kernel
theorem dX9_wipe_9 : decode cX9_wipe 9 = .ok (.getfield 10, 3) := by decide +kernel
theorem dX9_wipe_12 : decode cX9_wipe 12 = .ok (.iconst 0, 1) := by decide +kernel
theorem dX9_wipe_13 : decode cX9_wipe 13 = .ok (.putfield 95, 3) := by decide +kernel
theorem dX9_wipe_16 : decode cX9_wipe 16 = .ok (.iload_n 1, 1) := by decide +kernel
theorem dX9_wipe_17 : decode cX9_wipe 17 = .ok (.ireturn, 1) := by decide +kernel
set_option maxRecDepth 20000 in
theorem ggX9_fault_X3_faultPlace : GoodIn wsX9_fault wsX3_faultPlace := goodIn_r _ [6, 7, 8, 9, 10, 5, 11, 12, 13, 14, 15, 16, 17, 18, 19, 20, 28, 29] (by decide +kernel) (by decide +kernel)
set_option maxRecDepth 20000 in
theorem gX9_fault_X3_faultPlace : GoodIn wsX9_fault (wsV RX9 98 RX3 yX3_faultPlace wsX3_faultPlace) := goodIn_app (goodIn_of _ (by decide +kernel)) ggX9_fault_X3_faultPlace
theorem dX9_fault_0 : decode cX9_fault 0 = .ok (.aload_n 0, 1) := by decide +kernel
theorem dX9_fault_1 : decode cX9_fault 1 = .ok (.getfield 10, 3) := by decide +kernel
theorem dX9_fault_4 : decode cX9_fault 4 = .ok (.invokevirtual 98, 3) := by decide +kernel
theorem dX9_fault_7 : decode cX9_fault 7 = .ok (.ireturn, 1) := by decide +kernel
set_option maxRecDepth 20000 in
theorem ggX9_judge_X9_isWithin : GoodIn wsX9_judge wsX9_isWithin := goodIn_r _ [5] (by decide +kernel) (by decide +kernel)
set_option maxRecDepth 20000 in
theorem gX9_judge_X9_isWithin : GoodIn wsX9_judge (va_wsS RX9 81 yX9_isWithin wsX9_isWithin) := goodIn_app (goodIn_of _ (by decide +kernel)) ggX9_judge_X9_isWithin
set_option maxRecDepth 20000 in
theorem ggX9_judge_X9_followPad : GoodIn wsX9_judge wsX9_followPad := goodIn_r _ [9, 10, 1, 11, 12, 13, 14, 15, 16, 17, 18, 19, 20, 21, 22, 23, 24, 25, 26, 27, 28, 3, 4, 5, 29, 30, 31, 32, 33, 34, 35, 36, 37, 38, 39, 40, 41, 42, 43, 44, 45, 46, 47, 48, 49, 50, 51, 52, 53, 54, 55, 56, 57, 58, 59, 60, 61, 62, 63, 64, 65, 66, 67, 68, 69, 70, 71, 72, 73, 74, 75, 76, 77, 78, 79, 80, 81, 82, 83, 84, 85, 86, 87, 88, 89, 90, 91, 92, 93, 94, 95, 96, 97, 98, 99, 100, 101, 102, 103, 104, 105, 106, 107, 108, 109, 110, 111, 112, 113, 114, 115, 116, 117, 118, 119, 120, 121, 122, 123, 124, 125, 126, 127, 128, 129, 130, 131, 132, 133, 134, 135, 136, 137, 138, 139, 140, 141, 142, 143, 144, 145, 146, 147, 148, 149, 150, 151, 152, 153, 154, 155, 156, 161, 162, 163, 164, 165, 166, 167, 168, 169, 170, 171, 172, 173, 174, 175, 176, 177, 178, 179, 180, 181, 182, 183, 184, 185, 186, 187, 188] (by decide +kernel) (by decide +kernel)
set_option maxRecDepth 20000 in
theorem gX9_judge_X9_followPad : GoodIn wsX9_judge (wsV RX9 102 RX9 yX9_followPad wsX9_followPad) := goodIn_app (goodIn_of _ (by decide +kernel)) ggX9_judge_X9_followPad
set_option maxRecDepth 20000 in
theorem ggX9_judge_X8_ofText : GoodIn wsX9_judge wsX8_ofText := goodIn_r _ [160, 35, 43, 44, 168, 169, 170, 171, 172, 173, 174, 175] (by decide +kernel) (by decide +kernel)
set_option maxRecDepth 20000 in
theorem gX9_judge_X8_ofText : GoodIn wsX9_judge (wsV RX9 105 RX8 yX8_ofText wsX8_ofText) := goodIn_app (goodIn_of _ (by decide +kernel)) ggX9_judge_X8_ofText
theorem dX9_judge_0 : decode cX9_judge 0 = .ok (.iload_n 1, 1) := by decide +kernel
theorem dX9_judge_1 : decode cX9_judge 1 = .ok (.iconst 0, 1) := by decide +kernel
theorem dX9_judge_2 : decode cX9_judge 2 = .ok (.iconst 2, 1) := by decide +kernel
theorem dX9_judge_3 : decode cX9_judge 3 = .ok (.invokestatic 81, 3) := by decide +kernel
theorem dX9_judge_6 : decode cX9_judge 6 = .ok (.ifCond .ne 6, 3) := by decide +kernel
theorem dX9_judge_9 : decode cX9_judge 9 = .ok (.bipush (-2), 2) := by decide +kernel
theorem dX9_judge_11 : decode cX9_judge 11 = .ok (.ireturn, 1) := by decide +kernel
theorem dX9_judge_12 : decode cX9_judge 12 = .ok (.aload_n 0, 1) := by decide +kernel
theorem dX9_judge_13 : decode cX9_judge 13 = .ok (.invokevirtual 102, 3) := by decide +kernel
theorem dX9_judge_16 : decode cX9_judge 16 = .ok (.istore_n 2, 1) := by decide +kernel
theorem dX9_judge_17 : decode cX9_judge 17 = .ok (.iload_n 2, 1) := by decide +kernel
theorem dX9_judge_18 : decode cX9_judge 18 = .ok (.bipush (-5), 2) := by decide +kernel
theorem dX9_judge_20 : decode cX9_judge 20 = .ok (.if_icmp .eq 14, 3) := by decide +kernel
theorem dX9_judge_23 : decode cX9_judge 23 = .ok (.iload_n 1, 1) := by decide +kernel
theorem dX9_judge_24 : decode cX9_judge 24 = .ok (.iconst 2, 1) := by decide +kernel
theorem dX9_judge_25 : decode cX9_judge 25 = .ok (.if_icmp .ne 13, 3) := by decide +kernel
theorem dX9_judge_28 : decode cX9_judge 28 = .ok (.iload_n 2, 1) := by decide +kernel
theorem dX9_judge_29 : decode cX9_judge 29 = .ok (.bipush (-3), 2) := by decide +kernel
theorem dX9_judge_31 : decode cX9_judge 31 = .ok (.if_icmp .ne 7, 3) := by decide +kernel
theorem dX9_judge_34 : decode cX9_judge 34 = .ok (.iconst 1, 1) := by decide +kernel
theorem dX9_judge_35 : decode cX9_judge 35 = .ok (.goto 4, 3) := by decide +kernel
theorem dX9_judge_38 : decode cX9_judge 38 = .ok (.iconst 0, 1) := by decide +kernel
theorem dX9_judge_39 : decode cX9_judge 39 = .ok (.istore_n 3, 1) := by decide +kernel
theorem dX9_judge_40 : decode cX9_judge 40 = .ok (.iload_n 3, 1) := by decide +kernel
theorem dX9_judge_41 : decode cX9_judge 41 = .ok (.ifCond .eq 7, 3) := by decide +kernel
theorem dX9_judge_44 : decode cX9_judge 44 = .ok (.iload_n 2, 1) := by decide +kernel
theorem dX9_judge_45 : decode cX9_judge 45 = .ok (.goto 11, 3) := by decide +kernel
theorem dX9_judge_48 : decode cX9_judge 48 = .ok (.aload_n 0, 1) := by decide +kernel
theorem dX9_judge_49 : decode cX9_judge 49 = .ok (.getfield 26, 3) := by decide +kernel
theorem dX9_judge_52 : decode cX9_judge 52 = .ok (.iload_n 1, 1) := by decide +kernel
theorem dX9_judge_53 : decode cX9_judge 53 = .ok (.invokevirtual 105, 3) := by decide +kernel
theorem dX9_judge_56 : decode cX9_judge 56 = .ok (.ireturn, 1) := by decide +kernel
set_option maxRecDepth 20000 in
theorem ggX9_behind_X9_isWatcher : GoodIn wsX9_behind wsX9_isWatcher := goodIn_r _ [5] (by decide +kernel) (by decide +kernel)
set_option maxRecDepth 20000 in
theorem gX9_behind_X9_isWatcher : GoodIn wsX9_behind (va_wsS RX9 78 yX9_isWatcher wsX9_isWatcher) := goodIn_app (goodIn_of _ (by decide +kernel)) ggX9_behind_X9_isWatcher
set_option maxRecDepth 20000 in
theorem ggX9_behind_X9_isWithin : GoodIn wsX9_behind wsX9_isWithin := goodIn_r _ [8] (by decide +kernel) (by decide +kernel)
set_option maxRecDepth 20000 in
theorem gX9_behind_X9_isWithin : GoodIn wsX9_behind (va_wsS RX9 81 yX9_isWithin wsX9_isWithin) := goodIn_app (goodIn_of _ (by decide +kernel)) ggX9_behind_X9_isWithin
set_option maxRecDepth 20000 in
theorem ggX9_behind_X9_followPad : GoodIn wsX9_behind wsX9_followPad := goodIn_r _ [12, 13, 1, 14, 15, 16, 17, 18, 19, 20, 21, 22, 23, 24, 25, 26, 27, 28, 29, 30, 31, 7, 4, 8, 32, 33, 34, 35, 36, 37, 38, 39, 40, 41, 42, 43, 44, 45, 46, 47, 48, 49, 50, 51, 52, 53, 54, 55, 56, 57, 58, 59, 60, 61, 62, 63, 64, 65, 66, 67, 68, 69, 70, 71, 72, 73, 74, 75, 76, 77, 78, 79, 80, 81, 82, 83, 84, 85, 86, 87, 88, 89, 90, 91, 92, 93, 94, 95, 96, 97, 98, 99, 100, 101, 102, 103, 104, 105, 106, 107, 108, 109, 110, 111, 112, 113, 114, 115, 3, 5, 116, 117, 118, 119, 120, 121, 122, 123, 124, 125, 126, 127, 128, 129, 130, 131, 132, 133, 134, 135, 136, 137, 138, 139, 140, 141, 142, 143, 144, 145, 146, 147, 148, 149, 150, 151, 152, 153, 154, 155, 156, 157, 167, 168, 169, 170, 171, 172, 173, 174, 175, 176, 177, 178, 179, 180, 181, 182, 183, 184, 185, 186, 187, 188, 189, 190, 191, 192, 193, 194] (by decide +kernel) (by decide +kernel)
set_option maxRecDepth 20000 in
theorem gX9_behind_X9_followPad : GoodIn wsX9_behind (wsV RX9 102 RX9 yX9_followPad wsX9_followPad) := goodIn_app (goodIn_of _ (by decide +kernel)) ggX9_behind_X9_followPad
set_option maxRecDepth 20000 in
theorem ggX9_behind_X8_ofWatcher : GoodIn wsX9_behind wsX8_ofWatcher := goodIn_r _ [161, 44, 162, 163, 164, 53, 165, 60, 3, 4, 5, 166, 113, 114, 115, 59, 120, 121, 122, 123, 104, 105, 106, 107, 56, 55, 108, 109, 110, 111, 174, 175, 176, 177, 178, 179, 180, 181, 184, 185, 186, 187, 188, 189] (by decide +kernel) (by decide +kernel)
set_option maxRecDepth 20000 in
theorem gX9_behind_X8_ofWatcher : GoodIn wsX9_behind (wsV RX9 108 RX8 yX8_ofWatcher wsX8_ofWatcher) := goodIn_app (goodIn_of _ (by decide +kernel)) ggX9_behind_X8_ofWatcher
theorem dX9_behind_0 : decode cX9_behind 0 = .ok (.iload_n 1, 1) := by decide +kernel
theorem dX9_behind_1 : decode cX9_behind 1 = .ok (.invokestatic 78, 3) := by decide +kernel
theorem dX9_behind_4 : decode cX9_behind 4 = .ok (.ifCond .ne 5, 3) := by decide +kernel
theorem dX9_behind_7 : decode cX9_behind 7 = .ok (.iconst (-1), 1) := by decide +kernel
theorem dX9_behind_8 : decode cX9_behind 8 = .ok (.ireturn, 1) := by decide +kernel
theorem dX9_behind_9 : decode cX9_behind 9 = .ok (.iload_n 2, 1) := by decide +kernel
theorem dX9_behind_10 : decode cX9_behind 10 = .ok (.iconst 0, 1) := by decide +kernel
theorem dX9_behind_11 : decode cX9_behind 11 = .ok (.iconst 2, 1) := by decide +kernel
theorem dX9_behind_12 : decode cX9_behind 12 = .ok (.invokestatic 81, 3) := by decide +kernel
theorem dX9_behind_15 : decode cX9_behind 15 = .ok (.ifCond .ne 6, 3) := by decide +kernel
theorem dX9_behind_18 : decode cX9_behind 18 = .ok (.bipush (-2), 2) := by decide +kernel
theorem dX9_behind_20 : decode cX9_behind 20 = .ok (.ireturn, 1) := by decide +kernel
theorem dX9_behind_21 : decode cX9_behind 21 = .ok (.aload_n 0, 1) := by decide +kernel
theorem dX9_behind_22 : decode cX9_behind 22 = .ok (.invokevirtual 102, 3) := by decide +kernel
theorem dX9_behind_25 : decode cX9_behind 25 = .ok (.istore_n 3, 1) := by decide +kernel
theorem dX9_behind_26 : decode cX9_behind 26 = .ok (.iload_n 3, 1) := by decide +kernel
theorem dX9_behind_27 : decode cX9_behind 27 = .ok (.ifCond .eq 7, 3) := by decide +kernel
theorem dX9_behind_30 : decode cX9_behind 30 = .ok (.iload_n 3, 1) := by decide +kernel
theorem dX9_behind_31 : decode cX9_behind 31 = .ok (.goto 12, 3) := by decide +kernel
theorem dX9_behind_34 : decode cX9_behind 34 = .ok (.aload_n 0, 1) := by decide +kernel
theorem dX9_behind_35 : decode cX9_behind 35 = .ok (.getfield 26, 3) := by decide +kernel
theorem dX9_behind_38 : decode cX9_behind 38 = .ok (.iload_n 1, 1) := by decide +kernel
theorem dX9_behind_39 : decode cX9_behind 39 = .ok (.iload_n 2, 1) := by decide +kernel
theorem dX9_behind_40 : decode cX9_behind 40 = .ok (.invokevirtual 108, 3) := by decide +kernel
theorem dX9_behind_43 : decode cX9_behind 43 = .ok (.ireturn, 1) := by decide +kernel
set_option maxRecDepth 20000 in
theorem ggX9_table_X9_isPlace : GoodIn wsX9_table wsX9_isPlace := goodIn_r _ [7] (by decide +kernel) (by decide +kernel)
set_option maxRecDepth 20000 in
theorem gX9_table_X9_isPlace : GoodIn wsX9_table (va_wsS RX9 58 yX9_isPlace wsX9_isPlace) := goodIn_app (goodIn_of _ (by decide +kernel)) ggX9_table_X9_isPlace
set_option maxRecDepth 20000 in
theorem ggX9_table_X9_followPad : GoodIn wsX9_table wsX9_followPad := goodIn_r _ [11, 12, 1, 13, 14, 15, 16, 17, 18, 19, 20, 21, 22, 23, 24, 25, 26, 27, 28, 29, 30, 31, 6, 32, 33, 34, 35, 36, 37, 38, 39, 40, 41, 42, 43, 44, 45, 46, 47, 48, 49, 50, 51, 52, 53, 54, 55, 56, 57, 58, 59, 60, 61, 62, 63, 64, 65, 66, 67, 68, 69, 70, 71, 72, 73, 74, 75, 76, 77, 78, 79, 80, 81, 82, 83, 84, 85, 86, 87, 88, 89, 90, 91, 92, 93, 94, 95, 96, 97, 98, 99, 100, 101, 102, 103, 104, 105, 106, 107, 108, 109, 110, 111, 112, 113, 114, 115, 116, 117, 118, 119, 120, 121, 122, 123, 124, 125, 126, 127, 128, 129, 130, 131, 132, 133, 134, 135, 136, 137, 138, 139, 140, 141, 142, 143, 144, 145, 146, 147, 148, 149, 150, 151, 152, 153, 154, 155, 156, 157, 158, 159, 160, 162, 163, 164, 165, 166, 167, 168, 169, 170, 171, 172, 173, 174, 175, 176, 183, 184, 177, 178, 179, 180, 181, 182, 185, 186, 187, 188, 189] (by decide +kernel) (by decide +kernel)
set_option maxRecDepth 20000 in
theorem gX9_table_X9_followPad : GoodIn wsX9_table (wsV RX9 102 RX9 yX9_followPad wsX9_followPad) := goodIn_app (goodIn_of _ (by decide +kernel)) ggX9_table_X9_followPad
set_option maxRecDepth 20000 in
theorem ggX9_table_X2_cupOn : GoodIn wsX9_table wsX2_cupOn := goodIn_r _ [147] (by decide +kernel) (by decide +kernel)
set_option maxRecDepth 20000 in
theorem gX9_table_X2_cupOn : GoodIn wsX9_table (va_wsS RX9 115 yX2_cupOn wsX2_cupOn) := goodIn_app (goodIn_of _ (by decide +kernel)) ggX9_table_X2_cupOn
theorem dX9_table_0 : decode cX9_table 0 = .ok (.iload_n 1, 1) := by decide +kernel
theorem dX9_table_1 : decode cX9_table 1 = .ok (.invokestatic 58, 3) := by decide +kernel
theorem dX9_table_4 : decode cX9_table 4 = .ok (.ifCond .ne 5, 3) := by decide +kernel
theorem dX9_table_7 : decode cX9_table 7 = .ok (.iconst (-1), 1) := by decide +kernel
theorem dX9_table_8 : decode cX9_table 8 = .ok (.ireturn, 1) := by decide +kernel
theorem dX9_table_9 : decode cX9_table 9 = .ok (.aload_n 0, 1) := by decide +kernel
theorem dX9_table_10 : decode cX9_table 10 = .ok (.invokevirtual 102, 3) := by decide +kernel
theorem dX9_table_13 : decode cX9_table 13 = .ok (.istore_n 2, 1) := by decide +kernel
theorem dX9_table_14 : decode cX9_table 14 = .ok (.iload_n 2, 1) := by decide +kernel
theorem dX9_table_15 : decode cX9_table 15 = .ok (.ifCond .eq 7, 3) := by decide +kernel
theorem dX9_table_18 : decode cX9_table 18 = .ok (.iload_n 2, 1) := by decide +kernel
theorem dX9_table_19 : decode cX9_table 19 = .ok (.goto 17, 3) := by decide +kernel
theorem dX9_table_22 : decode cX9_table 22 = .ok (.aload_n 0, 1) := by decide +kernel
theorem dX9_table_23 : decode cX9_table 23 = .ok (.getfield 26, 3) := by decide +kernel
theorem dX9_table_26 : decode cX9_table 26 = .ok (.getfield 112, 3) := by decide +kernel
theorem dX9_table_29 : decode cX9_table 29 = .ok (.getfield 68, 3) := by decide +kernel
theorem dX9_table_32 : decode cX9_table 32 = .ok (.iload_n 1, 1) := by decide +kernel
theorem dX9_table_33 : decode cX9_table 33 = .ok (.invokestatic 115, 3) := by decide +kernel
theorem dX9_table_36 : decode cX9_table 36 = .ok (.ireturn, 1) := by decide +kernel
set_option maxRecDepth 20000 in
theorem ggX9_pea_X9_isWithin : GoodIn wsX9_pea wsX9_isWithin := goodIn_r _ [5] (by decide +kernel) (by decide +kernel)
set_option maxRecDepth 20000 in
theorem gX9_pea_X9_isWithin : GoodIn wsX9_pea (va_wsS RX9 81 yX9_isWithin wsX9_isWithin) := goodIn_app (goodIn_of _ (by decide +kernel)) ggX9_pea_X9_isWithin
set_option maxRecDepth 20000 in
theorem ggX9_pea_X9_followPad : GoodIn wsX9_pea wsX9_followPad := goodIn_r _ [9, 10, 1, 11, 12, 13, 14, 15, 16, 17, 18, 19, 20, 21, 22, 23, 24, 25, 26, 27, 28, 3, 4, 5, 29, 30, 31, 32, 33, 34, 35, 36, 37, 38, 39, 40, 41, 42, 43, 44, 45, 46, 47, 48, 49, 50, 51, 52, 53, 54, 55, 56, 57, 58, 59, 60, 61, 62, 63, 64, 65, 66, 67, 68, 69, 70, 71, 72, 73, 74, 75, 76, 77, 78, 79, 80, 81, 82, 83, 84, 85, 86, 87, 88, 89, 90, 91, 92, 93, 94, 95, 96, 97, 98, 99, 100, 101, 102, 103, 104, 105, 106, 107, 108, 109, 110, 111, 112, 113, 114, 115, 116, 117, 118, 119, 120, 121, 122, 123, 124, 125, 126, 127, 128, 129, 130, 131, 132, 133, 134, 135, 136, 137, 138, 139, 140, 141, 142, 143, 144, 145, 146, 147, 148, 149, 150, 151, 152, 153, 154, 155, 156, 166, 167, 168, 169, 170, 171, 172, 173, 174, 175, 176, 177, 178, 179, 180, 181, 182, 183, 184, 185, 186, 187, 188, 189, 190, 191, 192, 193] (by decide +kernel) (by decide +kernel)
set_option maxRecDepth 20000 in
theorem gX9_pea_X9_followPad : GoodIn wsX9_pea (wsV RX9 102 RX9 yX9_followPad wsX9_followPad) := goodIn_app (goodIn_of _ (by decide +kernel)) ggX9_pea_X9_followPad
set_option maxRecDepth 20000 in
theorem ggX9_pea_X8_ofPea : GoodIn wsX9_pea wsX8_ofPea := goodIn_r _ [160, 41, 161, 102, 103, 50, 104, 53, 52, 105, 106, 107, 108, 162, 163, 164, 165, 173, 174, 175, 176, 177, 178, 179, 180, 183, 184, 185, 186, 187, 188] (by decide +kernel) (by decide +kernel)
set_option maxRecDepth 20000 in
theorem gX9_pea_X8_ofPea : GoodIn wsX9_pea (wsV RX9 118 RX8 yX8_ofPea wsX8_ofPea) := goodIn_app (goodIn_of _ (by decide +kernel)) ggX9_pea_X8_ofPea
theorem dX9_pea_0 : decode cX9_pea 0 = .ok (.iload_n 1, 1) := by decide +kernel
theorem dX9_pea_1 : decode cX9_pea 1 = .ok (.iconst 0, 1) := by decide +kernel
theorem dX9_pea_2 : decode cX9_pea 2 = .ok (.iconst 1, 1) := by decide +kernel
theorem dX9_pea_3 : decode cX9_pea 3 = .ok (.invokestatic 81, 3) := by decide +kernel
theorem dX9_pea_6 : decode cX9_pea 6 = .ok (.ifCond .ne 6, 3) := by decide +kernel
theorem dX9_pea_9 : decode cX9_pea 9 = .ok (.bipush (-2), 2) := by decide +kernel
theorem dX9_pea_11 : decode cX9_pea 11 = .ok (.ireturn, 1) := by decide +kernel
theorem dX9_pea_12 : decode cX9_pea 12 = .ok (.aload_n 0, 1) := by decide +kernel
theorem dX9_pea_13 : decode cX9_pea 13 = .ok (.invokevirtual 102, 3) := by decide +kernel
theorem dX9_pea_16 : decode cX9_pea 16 = .ok (.istore_n 2, 1) := by decide +kernel
theorem dX9_pea_17 : decode cX9_pea 17 = .ok (.iload_n 2, 1) := by decide +kernel
theorem dX9_pea_18 : decode cX9_pea 18 = .ok (.ifCond .eq 7, 3) := by decide +kernel
theorem dX9_pea_21 : decode cX9_pea 21 = .ok (.iload_n 2, 1) := by decide +kernel
theorem dX9_pea_22 : decode cX9_pea 22 = .ok (.goto 11, 3) := by decide +kernel
theorem dX9_pea_25 : decode cX9_pea 25 = .ok (.aload_n 0, 1) := by decide +kernel
theorem dX9_pea_26 : decode cX9_pea 26 = .ok (.getfield 26, 3) := by decide +kernel
theorem dX9_pea_29 : decode cX9_pea 29 = .ok (.iload_n 1, 1) := by decide +kernel
theorem dX9_pea_30 : decode cX9_pea 30 = .ok (.invokevirtual 118, 3) := by decide +kernel
theorem dX9_pea_33 : decode cX9_pea 33 = .ok (.ireturn, 1) := by decide +kernel
set_option maxRecDepth 20000 in
theorem ggX9_first_X9_isWithin : GoodIn wsX9_first wsX9_isWithin := goodIn_r _ [5] (by decide +kernel) (by decide +kernel)
set_option maxRecDepth 20000 in
theorem gX9_first_X9_isWithin : GoodIn wsX9_first (va_wsS RX9 81 yX9_isWithin wsX9_isWithin) := goodIn_app (goodIn_of _ (by decide +kernel)) ggX9_first_X9_isWithin
set_option maxRecDepth 20000 in
theorem ggX9_first_X9_followPad : GoodIn wsX9_first wsX9_followPad := goodIn_r _ [9, 10, 1, 11, 12, 13, 14, 15, 16, 17, 18, 19, 20, 21, 22, 23, 24, 25, 26, 27, 28, 3, 4, 5, 29, 30, 31, 32, 33, 34, 35, 36, 37, 38, 39, 40, 41, 42, 43, 44, 45, 46, 47, 48, 49, 50, 51, 52, 53, 54, 55, 56, 57, 58, 59, 60, 61, 62, 63, 64, 65, 66, 67, 68, 69, 70, 71, 72, 73, 74, 75, 76, 77, 78, 79, 80, 81, 82, 83, 84, 85, 86, 87, 88, 89, 90, 91, 92, 93, 94, 95, 96, 97, 98, 99, 100, 101, 102, 103, 104, 105, 106, 107, 108, 109, 110, 111, 112, 113, 114, 115, 116, 117, 118, 119, 120, 121, 122, 123, 124, 125, 126, 127, 128, 129, 130, 131, 132, 133, 134, 135, 136, 137, 138, 139, 140, 141, 142, 143, 144, 145, 146, 147, 148, 149, 150, 151, 152, 153, 154, 155, 156, 162, 163, 164, 165, 166, 167, 168, 169, 170, 171, 172, 173, 174, 175, 176, 177, 178, 179, 180, 181, 182, 183, 184, 185, 186, 187, 188, 189] (by decide +kernel) (by decide +kernel)
set_option maxRecDepth 20000 in
theorem gX9_first_X9_followPad : GoodIn wsX9_first (wsV RX9 102 RX9 yX9_followPad wsX9_followPad) := goodIn_app (goodIn_of _ (by decide +kernel)) ggX9_first_X9_followPad
set_option maxRecDepth 20000 in
theorem ggX9_first_X8_ofFirstWrong : GoodIn wsX9_first wsX8_ofFirstWrong := goodIn_r _ [160, 45, 46, 41, 161, 169, 170, 171, 172, 173, 174, 175, 176, 179, 180, 181, 182, 183, 184] (by decide +kernel) (by decide +kernel)
set_option maxRecDepth 20000 in
theorem gX9_first_X8_ofFirstWrong : GoodIn wsX9_first (wsV RX9 121 RX8 yX8_ofFirstWrong wsX8_ofFirstWrong) := goodIn_app (goodIn_of _ (by decide +kernel)) ggX9_first_X8_ofFirstWrong
theorem dX9_first_0 : decode cX9_first 0 = .ok (.iload_n 1, 1) := by decide +kernel
theorem dX9_first_1 : decode cX9_first 1 = .ok (.iconst 0, 1) := by decide +kernel
theorem dX9_first_2 : decode cX9_first 2 = .ok (.iconst 2, 1) := by decide +kernel
theorem dX9_first_3 : decode cX9_first 3 = .ok (.invokestatic 81, 3) := by decide +kernel
theorem dX9_first_6 : decode cX9_first 6 = .ok (.ifCond .ne 6, 3) := by decide +kernel
theorem dX9_first_9 : decode cX9_first 9 = .ok (.bipush (-2), 2) := by decide +kernel
theorem dX9_first_11 : decode cX9_first 11 = .ok (.ireturn, 1) := by decide +kernel
theorem dX9_first_12 : decode cX9_first 12 = .ok (.aload_n 0, 1) := by decide +kernel
theorem dX9_first_13 : decode cX9_first 13 = .ok (.invokevirtual 102, 3) := by decide +kernel
theorem dX9_first_16 : decode cX9_first 16 = .ok (.istore_n 2, 1) := by decide +kernel
theorem dX9_first_17 : decode cX9_first 17 = .ok (.iload_n 2, 1) := by decide +kernel
theorem dX9_first_18 : decode cX9_first 18 = .ok (.ifCond .eq 7, 3) := by decide +kernel
theorem dX9_first_21 : decode cX9_first 21 = .ok (.iload_n 2, 1) := by decide +kernel
theorem dX9_first_22 : decode cX9_first 22 = .ok (.goto 11, 3) := by decide +kernel
theorem dX9_first_25 : decode cX9_first 25 = .ok (.aload_n 0, 1) := by decide +kernel
theorem dX9_first_26 : decode cX9_first 26 = .ok (.getfield 26, 3) := by decide +kernel
theorem dX9_first_29 : decode cX9_first 29 = .ok (.iload_n 1, 1) := by decide +kernel
theorem dX9_first_30 : decode cX9_first 30 = .ok (.invokevirtual 121, 3) := by decide +kernel
theorem dX9_first_33 : decode cX9_first 33 = .ok (.ireturn, 1) := by decide +kernel
set_option maxRecDepth 20000 in
theorem ggX9_done_X9_followPad : GoodIn wsX9_done wsX9_followPad := goodIn_r _ [11, 4, 2, 1, 12, 13, 14, 15, 16, 17, 18, 19, 20, 21, 22, 23, 24, 25, 26, 27, 28, 29, 10, 30, 31, 32, 33, 34, 35, 36, 37, 38, 39, 40, 41, 42, 43, 44, 45, 46, 47, 48, 49, 50, 51, 52, 53, 54, 55, 56, 57, 58, 59, 60, 61, 62, 63, 64, 65, 66, 67, 68, 69, 70, 71, 72, 73, 74, 75, 76, 77, 78, 79, 80, 81, 82, 83, 84, 85, 86, 87, 88, 89, 90, 91, 92, 93, 94, 95, 96, 97, 98, 99, 100, 101, 102, 103, 104, 105, 106, 107, 108, 109, 110, 111, 112, 113, 114, 115, 116, 117, 118, 119, 120, 121, 122, 123, 124, 125, 126, 127, 128, 129, 130, 131, 132, 133, 134, 135, 136, 137, 138, 139, 140, 141, 142, 143, 144, 145, 146, 147, 148, 149, 150, 151, 152, 153, 154, 155, 156, 157, 158, 160, 161, 162, 163, 164, 165, 166, 167, 168, 169, 170, 171, 172, 173, 174, 175, 176, 177, 178, 179, 180, 181, 182, 183, 184, 185, 186, 187] (by decide +kernel) (by decide +kernel)
set_option maxRecDepth 20000 in
theorem gX9_done_X9_followPad : GoodIn wsX9_done (wsV RX9 102 RX9 yX9_followPad wsX9_followPad) := goodIn_app (goodIn_of _ (by decide +kernel)) ggX9_done_X9_followPad
set_option maxRecDepth 20000 in
theorem ggX9_done_X7_copyFrom : GoodIn wsX9_done wsX7_copyFrom := goodIn_r _ [53, 54, 55, 56, 57, 58, 59, 177, 178, 179, 180, 181, 182] (by decide +kernel) (by decide +kernel)
set_option maxRecDepth 20000 in
theorem gX9_done_X7_copyFrom : GoodIn wsX9_done (wsV RX9 124 RX7 yX7_copyFrom wsX7_copyFrom) := goodIn_app (goodIn_of _ (by decide +kernel)) ggX9_done_X7_copyFrom
theorem dX9_done_0 : decode cX9_done 0 = .ok (.aload_n 0, 1) := by decide +kernel
theorem dX9_done_1 : decode cX9_done 1 = .ok (.invokevirtual 102, 3) := by decide +kernel
theorem dX9_done_4 : decode cX9_done 4 = .ok (.istore_n 1, 1) := by decide +kernel
theorem dX9_done_5 : decode cX9_done 5 = .ok (.iload_n 1, 1) := by decide +kernel
theorem dX9_done_6 : decode cX9_done 6 = .ok (.ifCond .eq 5, 3) := by decide +kernel
theorem dX9_done_9 : decode cX9_done 9 = .ok (.iload_n 1, 1) := by decide +kernel
theorem dX9_done_10 : decode cX9_done 10 = .ok (.ireturn, 1) := by decide +kernel
theorem dX9_done_11 : decode cX9_done 11 = .ok (.aload_n 0, 1) := by decide +kernel
theorem dX9_done_12 : decode cX9_done 12 = .ok (.getfield 19, 3) := by decide +kernel
theorem dX9_done_15 : decode cX9_done 15 = .ok (.aload_n 0, 1) := by decide +kernel
theorem dX9_done_16 : decode cX9_done 16 = .ok (.getfield 26, 3) := by decide +kernel
theorem dX9_done_19 : decode cX9_done 19 = .ok (.getfield 112, 3) := by decide +kernel
theorem dX9_done_22 : decode cX9_done 22 = .ok (.invokevirtual 124, 3) := by decide +kernel
theorem dX9_done_25 : decode cX9_done 25 = .ok (.aload_n 0, 1) := by decide +kernel
theorem dX9_done_26 : decode cX9_done 26 = .ok (.getfield 10, 3) := by decide +kernel
theorem dX9_done_29 : decode cX9_done 29 = .ok (.iconst 0, 1) := by decide +kernel
theorem dX9_done_30 : decode cX9_done 30 = .ok (.putfield 95, 3) := by decide +kernel
theorem dX9_done_33 : decode cX9_done 33 = .ok (.aload_n 0, 1) := by decide +kernel
theorem dX9_done_34 : decode cX9_done 34 = .ok (.getfield 26, 3) := by decide +kernel
theorem dX9_done_37 : decode cX9_done 37 = .ok (.getfield 128, 3) := by decide +kernel
theorem dX9_done_40 : decode cX9_done 40 = .ok (.ireturn, 1) := by decide +kernel
set_option maxRecDepth 20000 in
theorem ggX9_followPad_X3_faultPlace : GoodIn wsX9_followPad wsX3_faultPlace := goodIn_r _ [9, 10, 11, 12, 13, 8, 14, 15, 16, 17, 18, 19, 20, 21, 22, 23, 167, 168] (by decide +kernel) (by decide +kernel)
set_option maxRecDepth 20000 in
theorem gX9_followPad_X3_faultPlace : GoodIn wsX9_followPad (wsV RX9 98 RX3 yX3_faultPlace wsX3_faultPlace) := goodIn_app (goodIn_of _ (by decide +kernel)) ggX9_followPad_X3_faultPlace
set_option maxRecDepth 20000 in
theorem ggX9_followPad_X8_followText : GoodIn wsX9_followPad wsX8_followText := goodIn_r _ [28, 29, 30, 31, 32, 33, 34, 27, 35, 36, 37, 38, 39, 40, 41, 42, 43, 44, 45, 46, 47, 48, 49, 50, 51, 52, 53, 54, 55, 8, 56, 57, 58, 59, 60, 11, 61, 62, 63, 64, 65, 66, 67, 68, 69, 70, 71, 72, 73, 74, 75, 76, 77, 78, 79, 80, 81, 82, 12, 13, 14, 15, 16, 17, 83, 84, 85, 86, 87, 88, 89, 90, 91, 92, 93, 94, 95, 96, 97, 98, 99, 100, 101, 102, 103, 104, 105, 106, 107, 108, 22, 109, 110, 111, 112, 113, 114, 115, 116, 117, 118, 119, 120, 121, 122, 123, 124, 125, 126, 127, 128, 129, 130, 131, 132, 133, 134, 135, 136, 137, 138, 139, 140, 141, 142, 143, 144, 145, 146, 147, 148, 149, 150, 151, 167, 168, 159, 160, 161, 162, 163, 164, 165, 166, 169, 170, 171, 172, 173, 174, 175, 176, 177, 178, 179] (by decide +kernel) (by decide +kernel)
set_option maxRecDepth 20000 in
theorem gX9_followPad_X8_followText : GoodIn wsX9_followPad (wsV RX9 131 RX8 yX8_followText wsX8_followText) := goodIn_app (goodIn_of _ (by decide +kernel)) ggX9_followPad_X8_followText
theorem dX9_followPad_0 : decode cX9_followPad 0 = .ok (.aload_n 0, 1) := by decide +kernel
theorem dX9_followPad_1 : decode cX9_followPad 1 = .ok (.getfield 10, 3) := by decide +kernel
theorem dX9_followPad_4 : decode cX9_followPad 4 = .ok (.invokevirtual 98, 3) := by decide +kernel
theorem dX9_followPad_7 : decode cX9_followPad 7 = .ok (.bipush (-6), 2) := by decide +kernel
theorem dX9_followPad_9 : decode cX9_followPad 9 = .ok (.if_icmp .eq 6, 3) := by decide +kernel
theorem dX9_followPad_12 : decode cX9_followPad 12 = .ok (.bipush (-5), 2) := by decide +kernel
theorem dX9_followPad_14 : decode cX9_followPad 14 = .ok (.ireturn, 1) := by decide +kernel
theorem dX9_followPad_15 : decode cX9_followPad 15 = .ok (.aload_n 0, 1) := by decide +kernel
theorem dX9_followPad_16 : decode cX9_followPad 16 = .ok (.getfield 26, 3) := by decide +kernel
theorem dX9_followPad_19 : decode cX9_followPad 19 = .ok (.aload_n 0, 1) := by decide +kernel
theorem dX9_followPad_20 : decode cX9_followPad 20 = .ok (.getfield 19, 3) := by decide +kernel
theorem dX9_followPad_23 : decode cX9_followPad 23 = .ok (.aload_n 0, 1) := by decide +kernel
theorem dX9_followPad_24 : decode cX9_followPad 24 = .ok (.getfield 10, 3) := by decide +kernel
theorem dX9_followPad_27 : decode cX9_followPad 27 = .ok (.invokevirtual 131, 3) := by decide +kernel
theorem dX9_followPad_30 : decode cX9_followPad 30 = .ok (.aload_n 0, 1) := by decide +kernel
theorem dX9_followPad_31 : decode cX9_followPad 31 = .ok (.getfield 26, 3) := by decide +kernel
theorem dX9_followPad_34 : decode cX9_followPad 34 = .ok (.getfield 135, 3) := by decide +kernel
theorem dX9_followPad_37 : decode cX9_followPad 37 = .ok (.bipush (-6), 2) := by decide +kernel
theorem dX9_followPad_39 : decode cX9_followPad 39 = .ok (.if_icmp .ne 7, 3) := by decide +kernel
theorem dX9_followPad_42 : decode cX9_followPad 42 = .ok (.iconst 0, 1) := by decide +kernel
theorem dX9_followPad_43 : decode cX9_followPad 43 = .ok (.goto 5, 3) := by decide +kernel
theorem dX9_followPad_46 : decode cX9_followPad 46 = .ok (.bipush (-3), 2) := by decide +kernel
theorem dX9_followPad_48 : decode cX9_followPad 48 = .ok (.ireturn, 1) := by decide +kernel
set_option maxRecDepth 20000 in
theorem ggX9_changes_X2_ofRow : GoodIn wsX9_changes wsX2_ofRow := goodIn_r _ [6, 7, 8, 9, 10] (by decide +kernel) (by decide +kernel)
set_option maxRecDepth 20000 in
theorem gX9_changes_X2_ofRow : GoodIn wsX9_changes (va_wsS RX9 62 yX2_ofRow wsX2_ofRow) := goodIn_app (goodIn_of _ (by decide +kernel)) ggX9_changes_X2_ofRow
set_option maxRecDepth 20000 in
theorem ggX9_changes_X9_isWithin : GoodIn wsX9_changes wsX9_isWithin := goodIn_r _ [10] (by decide +kernel) (by decide +kernel)
set_option maxRecDepth 20000 in
theorem gX9_changes_X9_isWithin : GoodIn wsX9_changes (va_wsS RX9 81 yX9_isWithin wsX9_isWithin) := goodIn_app (goodIn_of _ (by decide +kernel)) ggX9_changes_X9_isWithin
set_option maxRecDepth 20000 in
theorem ggX9_changes_X2_movesBetween : GoodIn wsX9_changes wsX2_movesBetween := goodIn_r _ [14, 15, 16, 5, 17, 18, 19, 20] (by decide +kernel) (by decide +kernel)
set_option maxRecDepth 20000 in
theorem gX9_changes_X2_movesBetween : GoodIn wsX9_changes (va_wsS RX9 138 yX2_movesBetween wsX2_movesBetween) := goodIn_app (goodIn_of _ (by decide +kernel)) ggX9_changes_X2_movesBetween
set_option maxRecDepth 20000 in
theorem ggX9_changes_X2_cyclesOf : GoodIn wsX9_changes wsX2_cyclesOf := goodIn_r _ [23, 15, 16, 5, 17] (by decide +kernel) (by decide +kernel)
set_option maxRecDepth 20000 in
theorem gX9_changes_X2_cyclesOf : GoodIn wsX9_changes (va_wsS RX9 141 yX2_cyclesOf wsX2_cyclesOf) := goodIn_app (goodIn_of _ (by decide +kernel)) ggX9_changes_X2_cyclesOf
set_option maxRecDepth 20000 in
theorem ggX9_changes_X2_inversionsOf : GoodIn wsX9_changes wsX2_inversionsOf := goodIn_r _ [26, 15, 16, 5, 17] (by decide +kernel) (by decide +kernel)
set_option maxRecDepth 20000 in
theorem gX9_changes_X2_inversionsOf : GoodIn wsX9_changes (va_wsS RX9 144 yX2_inversionsOf wsX2_inversionsOf) := goodIn_app (goodIn_of _ (by decide +kernel)) ggX9_changes_X2_inversionsOf
theorem dX9_changes_0 : decode cX9_changes 0 = .ok (.iload_n 1, 1) := by decide +kernel
theorem dX9_changes_1 : decode cX9_changes 1 = .ok (.invokestatic 62, 3) := by decide +kernel
theorem dX9_changes_4 : decode cX9_changes 4 = .ok (.istore_n 3, 1) := by decide +kernel
theorem dX9_changes_5 : decode cX9_changes 5 = .ok (.iload_n 3, 1) := by decide +kernel
theorem dX9_changes_6 : decode cX9_changes 6 = .ok (.bipush (-6), 2) := by decide +kernel
theorem dX9_changes_8 : decode cX9_changes 8 = .ok (.if_icmp .eq 12, 3) := by decide +kernel
theorem dX9_changes_11 : decode cX9_changes 11 = .ok (.iload_n 2, 1) := by decide +kernel
theorem dX9_changes_12 : decode cX9_changes 12 = .ok (.iconst 0, 1) := by decide +kernel
theorem dX9_changes_13 : decode cX9_changes 13 = .ok (.iconst 1, 1) := by decide +kernel
theorem dX9_changes_14 : decode cX9_changes 14 = .ok (.invokestatic 81, 3) := by decide +kernel
theorem dX9_changes_17 : decode cX9_changes 17 = .ok (.ifCond .ne 6, 3) := by decide +kernel
theorem dX9_changes_20 : decode cX9_changes 20 = .ok (.bipush (-2), 2) := by decide +kernel
theorem dX9_changes_22 : decode cX9_changes 22 = .ok (.ireturn, 1) := by decide +kernel
theorem dX9_changes_23 : decode cX9_changes 23 = .ok (.aload_n 0, 1) := by decide +kernel
theorem dX9_changes_24 : decode cX9_changes 24 = .ok (.getfield 19, 3) := by decide +kernel
theorem dX9_changes_27 : decode cX9_changes 27 = .ok (.getfield 68, 3) := by decide +kernel
theorem dX9_changes_30 : decode cX9_changes 30 = .ok (.iload_n 3, 1) := by decide +kernel
theorem dX9_changes_31 : decode cX9_changes 31 = .ok (.invokestatic 138, 3) := by decide +kernel
theorem dX9_changes_34 : decode cX9_changes 34 = .ok (.istore 4, 2) := by decide +kernel
theorem dX9_changes_36 : decode cX9_changes 36 = .ok (.iload_n 2, 1) := by decide +kernel
theorem dX9_changes_37 : decode cX9_changes 37 = .ok (.ifCond .ne 14, 3) := by decide +kernel
theorem dX9_changes_40 : decode cX9_changes 40 = .ok (.bipush 6, 2) := by decide +kernel
theorem dX9_changes_42 : decode cX9_changes 42 = .ok (.iload 4, 2) := by decide +kernel
theorem dX9_changes_44 : decode cX9_changes 44 = .ok (.invokestatic 141, 3) := by decide +kernel
theorem dX9_changes_47 : decode cX9_changes 47 = .ok (.isub, 1) := by decide +kernel
theorem dX9_changes_48 : decode cX9_changes 48 = .ok (.goto 8, 3) := by decide +kernel
theorem dX9_changes_51 : decode cX9_changes 51 = .ok (.iload 4, 2) := by decide +kernel
theorem dX9_changes_53 : decode cX9_changes 53 = .ok (.invokestatic 144, 3) := by decide +kernel
theorem dX9_changes_56 : decode cX9_changes 56 = .ok (.ireturn, 1) := by decide +kernel
set_option maxRecDepth 20000 in
theorem ggX9_by_X2_ofRow : GoodIn wsX9_by wsX2_ofRow := goodIn_r _ [7, 8, 9, 10, 11] (by decide +kernel) (by decide +kernel)
set_option maxRecDepth 20000 in
theorem gX9_by_X2_ofRow : GoodIn wsX9_by (va_wsS RX9 62 yX2_ofRow wsX2_ofRow) := goodIn_app (goodIn_of _ (by decide +kernel)) ggX9_by_X2_ofRow
set_option maxRecDepth 20000 in
theorem ggX9_by_X9_isWithin : GoodIn wsX9_by wsX9_isWithin := goodIn_r _ [11] (by decide +kernel) (by decide +kernel)
set_option maxRecDepth 20000 in
theorem gX9_by_X9_isWithin : GoodIn wsX9_by (va_wsS RX9 81 yX9_isWithin wsX9_isWithin) := goodIn_app (goodIn_of _ (by decide +kernel)) ggX9_by_X9_isWithin
set_option maxRecDepth 20000 in
theorem ggX9_by_X4_measure : GoodIn wsX9_by wsX4_measure := goodIn_r _ [17, 18, 19, 20, 21, 22, 23, 24, 25, 26, 27, 16, 28, 29, 30, 6, 31, 32, 33, 34, 35, 36, 37, 38, 39, 40, 41, 9, 10, 11, 42, 43, 44, 45, 46, 47, 48, 49, 50, 51, 52, 53, 54, 73, 74, 75] (by decide +kernel) (by decide +kernel)
set_option maxRecDepth 20000 in
theorem gX9_by_X4_measure : GoodIn wsX9_by (wsV RX9 147 RX4 yX4_measure wsX4_measure) := goodIn_app (goodIn_of _ (by decide +kernel)) ggX9_by_X4_measure
set_option maxRecDepth 20000 in
theorem ggX9_by_X4_stepsFrom : GoodIn wsX9_by wsX4_stepsFrom := goodIn_r _ [45, 18, 29, 30, 6, 31, 32, 33, 34, 35, 36, 37, 38, 39, 40, 41, 9, 10, 11, 73, 74, 75] (by decide +kernel) (by decide +kernel)
set_option maxRecDepth 20000 in
theorem gX9_by_X4_stepsFrom : GoodIn wsX9_by (wsV RX9 151 RX4 yX4_stepsFrom wsX4_stepsFrom) := goodIn_app (goodIn_of _ (by decide +kernel)) ggX9_by_X4_stepsFrom
set_option maxRecDepth 20000 in
theorem ggX9_by_X4_pairFrom : GoodIn wsX9_by wsX4_pairFrom := goodIn_r _ [59, 50, 51, 42, 43, 44, 16, 45, 18, 29, 30, 6, 31, 32, 33, 34, 35, 36, 37, 38, 39, 40, 41, 9, 10, 11, 52, 53, 54, 73, 74, 75] (by decide +kernel) (by decide +kernel)
set_option maxRecDepth 20000 in
theorem gX9_by_X4_pairFrom : GoodIn wsX9_by (wsV RX9 154 RX4 yX4_pairFrom wsX4_pairFrom) := goodIn_app (goodIn_of _ (by decide +kernel)) ggX9_by_X4_pairFrom
theorem dX9_by_0 : decode cX9_by 0 = .ok (.iload_n 1, 1) := by decide +kernel
theorem dX9_by_1 : decode cX9_by 1 = .ok (.invokestatic 62, 3) := by decide +kernel
theorem dX9_by_4 : decode cX9_by 4 = .ok (.istore 4, 2) := by decide +kernel
theorem dX9_by_6 : decode cX9_by 6 = .ok (.iload 4, 2) := by decide +kernel
theorem dX9_by_8 : decode cX9_by 8 = .ok (.bipush (-6), 2) := by decide +kernel
theorem dX9_by_10 : decode cX9_by 10 = .ok (.if_icmp .eq 23, 3) := by decide +kernel
theorem dX9_by_13 : decode cX9_by 13 = .ok (.iload_n 2, 1) := by decide +kernel
theorem dX9_by_14 : decode cX9_by 14 = .ok (.iconst 0, 1) := by decide +kernel
theorem dX9_by_15 : decode cX9_by 15 = .ok (.sipush 32767, 3) := by decide +kernel
theorem dX9_by_18 : decode cX9_by 18 = .ok (.invokestatic 81, 3) := by decide +kernel
theorem dX9_by_21 : decode cX9_by 21 = .ok (.ifCond .eq 12, 3) := by decide +kernel
theorem dX9_by_24 : decode cX9_by 24 = .ok (.iload_n 3, 1) := by decide +kernel
theorem dX9_by_25 : decode cX9_by 25 = .ok (.iconst 0, 1) := by decide +kernel
theorem dX9_by_26 : decode cX9_by 26 = .ok (.iconst 1, 1) := by decide +kernel
theorem dX9_by_27 : decode cX9_by 27 = .ok (.invokestatic 81, 3) := by decide +kernel
theorem dX9_by_30 : decode cX9_by 30 = .ok (.ifCond .ne 6, 3) := by decide +kernel
theorem dX9_by_33 : decode cX9_by 33 = .ok (.bipush (-2), 2) := by decide +kernel
theorem dX9_by_35 : decode cX9_by 35 = .ok (.ireturn, 1) := by decide +kernel
theorem dX9_by_36 : decode cX9_by 36 = .ok (.aload_n 0, 1) := by decide +kernel
theorem dX9_by_37 : decode cX9_by 37 = .ok (.getfield 40, 3) := by decide +kernel
theorem dX9_by_40 : decode cX9_by 40 = .ok (.aload_n 0, 1) := by decide +kernel
theorem dX9_by_41 : decode cX9_by 41 = .ok (.getfield 19, 3) := by decide +kernel
theorem dX9_by_44 : decode cX9_by 44 = .ok (.getfield 68, 3) := by decide +kernel
theorem dX9_by_47 : decode cX9_by 47 = .ok (.iload 4, 2) := by decide +kernel
theorem dX9_by_49 : decode cX9_by 49 = .ok (.iload_n 2, 1) := by decide +kernel
theorem dX9_by_50 : decode cX9_by 50 = .ok (.invokevirtual 147, 3) := by decide +kernel
theorem dX9_by_53 : decode cX9_by 53 = .ok (.iload_n 3, 1) := by decide +kernel
theorem dX9_by_54 : decode cX9_by 54 = .ok (.ifCond .ne 20, 3) := by decide +kernel
theorem dX9_by_57 : decode cX9_by 57 = .ok (.aload_n 0, 1) := by decide +kernel
theorem dX9_by_58 : decode cX9_by 58 = .ok (.getfield 40, 3) := by decide +kernel
theorem dX9_by_61 : decode cX9_by 61 = .ok (.aload_n 0, 1) := by decide +kernel
theorem dX9_by_62 : decode cX9_by 62 = .ok (.getfield 19, 3) := by decide +kernel
theorem dX9_by_65 : decode cX9_by 65 = .ok (.getfield 68, 3) := by decide +kernel
theorem dX9_by_68 : decode cX9_by 68 = .ok (.invokevirtual 151, 3) := by decide +kernel
theorem dX9_by_71 : decode cX9_by 71 = .ok (.goto 18, 3) := by decide +kernel
theorem dX9_by_74 : decode cX9_by 74 = .ok (.aload_n 0, 1) := by decide +kernel
theorem dX9_by_75 : decode cX9_by 75 = .ok (.getfield 40, 3) := by decide +kernel
theorem dX9_by_78 : decode cX9_by 78 = .ok (.aload_n 0, 1) := by decide +kernel
theorem dX9_by_79 : decode cX9_by 79 = .ok (.getfield 19, 3) := by decide +kernel
theorem dX9_by_82 : decode cX9_by 82 = .ok (.getfield 68, 3) := by decide +kernel
theorem dX9_by_85 : decode cX9_by 85 = .ok (.iload_n 2, 1) := by decide +kernel
theorem dX9_by_86 : decode cX9_by 86 = .ok (.invokevirtual 154, 3) := by decide +kernel
theorem dX9_by_89 : decode cX9_by 89 = .ok (.ireturn, 1) := by decide +kernel
set_option maxRecDepth 20000 in
theorem ggX9_rank_X2_ofRow : GoodIn wsX9_rank wsX2_ofRow := goodIn_r _ [4, 5, 6, 7, 8] (by decide +kernel) (by decide +kernel)
set_option maxRecDepth 20000 in
theorem gX9_rank_X2_ofRow : GoodIn wsX9_rank (va_wsS RX9 62 yX2_ofRow wsX2_ofRow) := goodIn_app (goodIn_of _ (by decide +kernel)) ggX9_rank_X2_ofRow
set_option maxRecDepth 20000 in
theorem ggX9_rank_X2_rankOf : GoodIn wsX9_rank wsX2_rankOf := goodIn_r _ [11, 12, 13, 3, 14, 15, 16, 17, 18, 19, 20, 21] (by decide +kernel) (by decide +kernel)
set_option maxRecDepth 20000 in
theorem gX9_rank_X2_rankOf : GoodIn wsX9_rank (va_wsS RX9 157 yX2_rankOf wsX2_rankOf) := goodIn_app (goodIn_of _ (by decide +kernel)) ggX9_rank_X2_rankOf
theorem dX9_rank_0 : decode cX9_rank 0 = .ok (.iload_n 1, 1) := by decide +kernel
theorem dX9_rank_1 : decode cX9_rank 1 = .ok (.invokestatic 62, 3) := by decide +kernel
theorem dX9_rank_4 : decode cX9_rank 4 = .ok (.istore_n 2, 1) := by decide +kernel
theorem dX9_rank_5 : decode cX9_rank 5 = .ok (.iload_n 2, 1) := by decide +kernel
theorem dX9_rank_6 : decode cX9_rank 6 = .ok (.bipush (-6), 2) := by decide +kernel
theorem dX9_rank_8 : decode cX9_rank 8 = .ok (.if_icmp .ne 8, 3) := by decide +kernel
theorem dX9_rank_11 : decode cX9_rank 11 = .ok (.bipush (-2), 2) := by decide +kernel
theorem dX9_rank_13 : decode cX9_rank 13 = .ok (.goto 7, 3) := by decide +kernel
theorem dX9_rank_16 : decode cX9_rank 16 = .ok (.iload_n 2, 1) := by decide +kernel
theorem dX9_rank_17 : decode cX9_rank 17 = .ok (.invokestatic 157, 3) := by decide +kernel
theorem dX9_rank_20 : decode cX9_rank 20 = .ok (.ireturn, 1) := by decide +kernel
set_option maxRecDepth 20000 in
theorem ggX9_row_X9_isWithin : GoodIn wsX9_row wsX9_isWithin := goodIn_r _ [4] (by decide +kernel) (by decide +kernel)
set_option maxRecDepth 20000 in
theorem gX9_row_X9_isWithin : GoodIn wsX9_row (va_wsS RX9 81 yX9_isWithin wsX9_isWithin) := goodIn_app (goodIn_of _ (by decide +kernel)) ggX9_row_X9_isWithin
set_option maxRecDepth 20000 in
theorem ggX9_row_X2_ofRank : GoodIn wsX9_row wsX2_ofRank := goodIn_r _ [8, 9, 10, 7, 11, 12, 13, 14, 15, 16, 17] (by decide +kernel) (by decide +kernel)
set_option maxRecDepth 20000 in
theorem gX9_row_X2_ofRank : GoodIn wsX9_row (va_wsS RX9 160 yX2_ofRank wsX2_ofRank) := goodIn_app (goodIn_of _ (by decide +kernel)) ggX9_row_X2_ofRank
set_option maxRecDepth 20000 in
theorem ggX9_row_X2_toRow : GoodIn wsX9_row wsX2_toRow := goodIn_r _ [20, 12, 13, 7, 14] (by decide +kernel) (by decide +kernel)
set_option maxRecDepth 20000 in
theorem gX9_row_X2_toRow : GoodIn wsX9_row (va_wsS RX9 72 yX2_toRow wsX2_toRow) := goodIn_app (goodIn_of _ (by decide +kernel)) ggX9_row_X2_toRow
theorem dX9_row_0 : decode cX9_row 0 = .ok (.iload_n 1, 1) := by decide +kernel
theorem dX9_row_1 : decode cX9_row 1 = .ok (.iconst 0, 1) := by decide +kernel
theorem dX9_row_2 : decode cX9_row 2 = .ok (.sipush 719, 3) := by decide +kernel
theorem dX9_row_5 : decode cX9_row 5 = .ok (.invokestatic 81, 3) := by decide +kernel
theorem dX9_row_8 : decode cX9_row 8 = .ok (.ifCond .eq 13, 3) := by decide +kernel
theorem dX9_row_11 : decode cX9_row 11 = .ok (.iload_n 1, 1) := by decide +kernel
theorem dX9_row_12 : decode cX9_row 12 = .ok (.invokestatic 160, 3) := by decide +kernel
theorem dX9_row_15 : decode cX9_row 15 = .ok (.invokestatic 72, 3) := by decide +kernel
theorem dX9_row_18 : decode cX9_row 18 = .ok (.goto 5, 3) := by decide +kernel
theorem dX9_row_21 : decode cX9_row 21 = .ok (.bipush (-2), 2) := by decide +kernel
theorem dX9_row_23 : decode cX9_row 23 = .ok (.ireturn, 1) := by decide +kernel
set_option maxRecDepth 20000 in
theorem ggX9_weigh_X5_isWeighing : GoodIn wsX9_weigh wsX5_isWeighing := goodIn_r _ [6, 7, 8, 9, 10, 11, 12, 13, 14, 15, 16] (by decide +kernel) (by decide +kernel)
set_option maxRecDepth 20000 in
theorem gX9_weigh_X5_isWeighing : GoodIn wsX9_weigh (va_wsS RX9 163 yX5_isWeighing wsX5_isWeighing) := goodIn_app (goodIn_of _ (by decide +kernel)) ggX9_weigh_X5_isWeighing
set_option maxRecDepth 20000 in
theorem ggX9_weigh_X9_isWithin : GoodIn wsX9_weigh wsX9_isWithin := goodIn_r _ [9] (by decide +kernel) (by decide +kernel)
set_option maxRecDepth 20000 in
theorem gX9_weigh_X9_isWithin : GoodIn wsX9_weigh (va_wsS RX9 81 yX9_isWithin wsX9_isWithin) := goodIn_app (goodIn_of _ (by decide +kernel)) ggX9_weigh_X9_isWithin
set_option maxRecDepth 20000 in
theorem ggX9_weigh_X5_append : GoodIn wsX9_weigh wsX5_append := goodIn_r _ [21, 22, 23, 24, 25, 33, 34, 35, 36] (by decide +kernel) (by decide +kernel)
set_option maxRecDepth 20000 in
theorem gX9_weigh_X5_append : GoodIn wsX9_weigh (wsV RX9 167 RX5 yX5_append wsX5_append) := goodIn_app (goodIn_of _ (by decide +kernel)) ggX9_weigh_X5_append
theorem dX9_weigh_0 : decode cX9_weigh 0 = .ok (.iload_n 1, 1) := by decide +kernel
theorem dX9_weigh_1 : decode cX9_weigh 1 = .ok (.iload_n 2, 1) := by decide +kernel
theorem dX9_weigh_2 : decode cX9_weigh 2 = .ok (.invokestatic 163, 3) := by decide +kernel
theorem dX9_weigh_5 : decode cX9_weigh 5 = .ok (.ifCond .eq 12, 3) := by decide +kernel
theorem dX9_weigh_8 : decode cX9_weigh 8 = .ok (.iload_n 3, 1) := by decide +kernel
theorem dX9_weigh_9 : decode cX9_weigh 9 = .ok (.iconst 0, 1) := by decide +kernel
theorem dX9_weigh_10 : decode cX9_weigh 10 = .ok (.iconst 2, 1) := by decide +kernel
theorem dX9_weigh_11 : decode cX9_weigh 11 = .ok (.invokestatic 81, 3) := by decide +kernel
theorem dX9_weigh_14 : decode cX9_weigh 14 = .ok (.ifCond .ne 6, 3) := by decide +kernel
theorem dX9_weigh_17 : decode cX9_weigh 17 = .ok (.bipush (-2), 2) := by decide +kernel
theorem dX9_weigh_19 : decode cX9_weigh 19 = .ok (.ireturn, 1) := by decide +kernel
theorem dX9_weigh_20 : decode cX9_weigh 20 = .ok (.aload_n 0, 1) := by decide +kernel
theorem dX9_weigh_21 : decode cX9_weigh 21 = .ok (.getfield 33, 3) := by decide +kernel
theorem dX9_weigh_24 : decode cX9_weigh 24 = .ok (.iload_n 1, 1) := by decide +kernel
theorem dX9_weigh_25 : decode cX9_weigh 25 = .ok (.iload_n 2, 1) := by decide +kernel
theorem dX9_weigh_26 : decode cX9_weigh 26 = .ok (.iload_n 3, 1) := by decide +kernel
theorem dX9_weigh_27 : decode cX9_weigh 27 = .ok (.invokevirtual 167, 3) := by decide +kernel
theorem dX9_weigh_30 : decode cX9_weigh 30 = .ok (.ifCond .eq 13, 3) := by decide +kernel
theorem dX9_weigh_33 : decode cX9_weigh 33 = .ok (.aload_n 0, 1) := by decide +kernel
theorem dX9_weigh_34 : decode cX9_weigh 34 = .ok (.getfield 33, 3) := by decide +kernel
theorem dX9_weigh_37 : decode cX9_weigh 37 = .ok (.getfield 169, 3) := by decide +kernel
theorem dX9_weigh_40 : decode cX9_weigh 40 = .ok (.goto 5, 3) := by decide +kernel
theorem dX9_weigh_43 : decode cX9_weigh 43 = .ok (.bipush (-4), 2) := by decide +kernel
theorem dX9_weigh_45 : decode cX9_weigh 45 = .ok (.ireturn, 1) := by decide +kernel
theorem dX9_forget_0 : decode cX9_forget 0 = .ok (.aload_n 0, 1) := by decide +kernel
theorem dX9_forget_1 : decode cX9_forget 1 = .ok (.getfield 33, 3) := by decide +kernel
theorem dX9_forget_4 : decode cX9_forget 4 = .ok (.getfield 169, 3) := by decide +kernel
theorem dX9_forget_7 : decode cX9_forget 7 = .ok (.istore_n 1, 1) := by decide +kernel
theorem dX9_forget_8 : decode cX9_forget 8 = .ok (.aload_n 0, 1) := by decide +kernel
theorem dX9_forget_9 : decode cX9_forget 9 = .ok (.getfield 33, 3) := by decide +kernel
theorem dX9_forget_12 : decode cX9_forget 12 = .ok (.iconst 0, 1) := by decide +kernel
theorem dX9_forget_13 : decode cX9_forget 13 = .ok (.putfield 169, 3) := by decide +kernel
theorem dX9_forget_16 : decode cX9_forget 16 = .ok (.iload_n 1, 1) := by decide +kernel
theorem dX9_forget_17 : decode cX9_forget 17 = .ok (.ireturn, 1) := by decide +kernel
set_option maxRecDepth 20000 in
theorem ggX9_cases_X5_fittingCases : GoodIn wsX9_cases wsX5_fittingCases := goodIn_r _ [6, 7, 8, 9, 5, 10, 11, 12, 13, 14, 15, 16, 17, 29, 30, 31, 32] (by decide +kernel) (by decide +kernel)
set_option maxRecDepth 20000 in
theorem gX9_cases_X5_fittingCases : GoodIn wsX9_cases (wsV RX9 170 RX5 yX5_fittingCases wsX5_fittingCases) := goodIn_app (goodIn_of _ (by decide +kernel)) ggX9_cases_X5_fittingCases
set_option maxRecDepth 20000 in
theorem ggX9_cases_X5_fittingCase : GoodIn wsX9_cases wsX5_fittingCase := goodIn_r _ [21, 7, 8, 9, 5, 10, 11, 12, 13, 14, 15, 16, 17, 29, 30, 31, 32] (by decide +kernel) (by decide +kernel)
set_option maxRecDepth 20000 in
theorem gX9_cases_X5_fittingCase : GoodIn wsX9_cases (wsV RX9 173 RX5 yX5_fittingCase wsX5_fittingCase) := goodIn_app (goodIn_of _ (by decide +kernel)) ggX9_cases_X5_fittingCase
theorem dX9_cases_0 : decode cX9_cases 0 = .ok (.iload_n 1, 1) := by decide +kernel
theorem dX9_cases_1 : decode cX9_cases 1 = .ok (.iconst (-1), 1) := by decide +kernel
theorem dX9_cases_2 : decode cX9_cases 2 = .ok (.if_icmp .ne 13, 3) := by decide +kernel
theorem dX9_cases_5 : decode cX9_cases 5 = .ok (.aload_n 0, 1) := by decide +kernel
theorem dX9_cases_6 : decode cX9_cases 6 = .ok (.getfield 33, 3) := by decide +kernel
theorem dX9_cases_9 : decode cX9_cases 9 = .ok (.invokevirtual 170, 3) := by decide +kernel
theorem dX9_cases_12 : decode cX9_cases 12 = .ok (.goto 11, 3) := by decide +kernel
theorem dX9_cases_15 : decode cX9_cases 15 = .ok (.aload_n 0, 1) := by decide +kernel
theorem dX9_cases_16 : decode cX9_cases 16 = .ok (.getfield 33, 3) := by decide +kernel
theorem dX9_cases_19 : decode cX9_cases 19 = .ok (.iload_n 1, 1) := by decide +kernel
theorem dX9_cases_20 : decode cX9_cases 20 = .ok (.invokevirtual 173, 3) := by decide +kernel
theorem dX9_cases_23 : decode cX9_cases 23 = .ok (.ireturn, 1) := by decide +kernel
set_option maxRecDepth 20000 in
theorem ggX9_leaves_X5_isWeighing : GoodIn wsX9_leaves wsX5_isWeighing := goodIn_r _ [5, 6, 7, 8, 9, 10, 11, 12, 13, 14, 15] (by decide +kernel) (by decide +kernel)
set_option maxRecDepth 20000 in
theorem gX9_leaves_X5_isWeighing : GoodIn wsX9_leaves (va_wsS RX9 163 yX5_isWeighing wsX5_isWeighing) := goodIn_app (goodIn_of _ (by decide +kernel)) ggX9_leaves_X5_isWeighing
set_option maxRecDepth 20000 in
theorem ggX9_leaves_X5_mostLeft : GoodIn wsX9_leaves wsX5_mostLeft := goodIn_r _ [19, 20, 21, 22, 23, 24, 25, 26, 4, 27, 28, 29, 30, 31, 32, 33, 34, 42, 43, 44, 45] (by decide +kernel) (by decide +kernel)
set_option maxRecDepth 20000 in
theorem gX9_leaves_X5_mostLeft : GoodIn wsX9_leaves (wsV RX9 176 RX5 yX5_mostLeft wsX5_mostLeft) := goodIn_app (goodIn_of _ (by decide +kernel)) ggX9_leaves_X5_mostLeft
theorem dX9_leaves_0 : decode cX9_leaves 0 = .ok (.iload_n 1, 1) := by decide +kernel
theorem dX9_leaves_1 : decode cX9_leaves 1 = .ok (.iload_n 2, 1) := by decide +kernel
theorem dX9_leaves_2 : decode cX9_leaves 2 = .ok (.invokestatic 163, 3) := by decide +kernel
theorem dX9_leaves_5 : decode cX9_leaves 5 = .ok (.ifCond .eq 15, 3) := by decide +kernel
theorem dX9_leaves_8 : decode cX9_leaves 8 = .ok (.aload_n 0, 1) := by decide +kernel

theorem dX10_forget_7 : decode cX10_forget 7 = .ok (.putfield 274, 3) := by decide +kernel
theorem dX10_forget_10 : decode cX10_forget 10 = .ok (.iload_n 1, 1) := by decide +kernel
theorem dX10_forget_11 : decode cX10_forget 11 = .ok (.ireturn, 1) := by decide +kernel
set_option maxRecDepth 20000 in
theorem ggX10_comesTo_X10_has : GoodIn wsX10_comesTo wsX10_has := goodIn_r _ [4] (by decide +kernel) (by decide +kernel)
set_option maxRecDepth 20000 in
theorem gX10_comesTo_X10_has : GoodIn wsX10_comesTo (va_wsS RX10 148 yX10_has wsX10_has) := goodIn_app (goodIn_of _ (by decide +kernel)) ggX10_comesTo_X10_has
theorem dX10_comesTo_0 : decode cX10_comesTo 0 = .ok (.iload_n 0, 1) := by decide +kernel
theorem dX10_comesTo_1 : decode cX10_comesTo 1 = .ok (.ifCond .ne 5, 3) := by decide +kernel
theorem dX10_comesTo_4 : decode cX10_comesTo 4 = .ok (.iconst 0, 1) := by decide +kernel
theorem dX10_comesTo_5 : decode cX10_comesTo 5 = .ok (.ireturn, 1) := by decide +kernel
theorem dX10_comesTo_6 : decode cX10_comesTo 6 = .ok (.iload_n 0, 1) := by decide +kernel
theorem dX10_comesTo_7 : decode cX10_comesTo 7 = .ok (.iconst 1, 1) := by decide +kernel
theorem dX10_comesTo_8 : decode cX10_comesTo 8 = .ok (.isub, 1) := by decide +kernel
theorem dX10_comesTo_9 : decode cX10_comesTo 9 = .ok (.bipush 12, 2) := by decide +kernel
theorem dX10_comesTo_11 : decode cX10_comesTo 11 = .ok (.irem, 1) := by decide +kernel
theorem dX10_comesTo_12 : decode cX10_comesTo 12 = .ok (.istore_n 3, 1) := by decide +kernel
theorem dX10_comesTo_13 : decode cX10_comesTo 13 = .ok (.iload_n 0, 1) := by decide +kernel
theorem dX10_comesTo_14 : decode cX10_comesTo 14 = .ok (.bipush 12, 2) := by decide +kernel
theorem dX10_comesTo_16 : decode cX10_comesTo 16 = .ok (.if_icmp .gt 7, 3) := by decide +kernel
theorem dX10_comesTo_19 : decode cX10_comesTo 19 = .ok (.iconst 1, 1) := by decide +kernel
theorem dX10_comesTo_20 : decode cX10_comesTo 20 = .ok (.goto 4, 3) := by decide +kernel
theorem dX10_comesTo_23 : decode cX10_comesTo 23 = .ok (.iconst 0, 1) := by decide +kernel
theorem dX10_comesTo_24 : decode cX10_comesTo 24 = .ok (.istore 4, 2) := by decide +kernel
theorem dX10_comesTo_26 : decode cX10_comesTo 26 = .ok (.iload_n 1, 1) := by decide +kernel
theorem dX10_comesTo_27 : decode cX10_comesTo 27 = .ok (.iload_n 3, 1) := by decide +kernel
theorem dX10_comesTo_28 : decode cX10_comesTo 28 = .ok (.invokestatic 148, 3) := by decide +kernel
theorem dX10_comesTo_31 : decode cX10_comesTo 31 = .ok (.ifCond .eq 16, 3) := by decide +kernel
theorem dX10_comesTo_34 : decode cX10_comesTo 34 = .ok (.iload 4, 2) := by decide +kernel
theorem dX10_comesTo_36 : decode cX10_comesTo 36 = .ok (.ifCond .eq 7, 3) := by decide +kernel
theorem dX10_comesTo_39 : decode cX10_comesTo 39 = .ok (.iconst 1, 1) := by decide +kernel
theorem dX10_comesTo_40 : decode cX10_comesTo 40 = .ok (.goto 29, 3) := by decide +kernel
theorem dX10_comesTo_43 : decode cX10_comesTo 43 = .ok (.iconst 2, 1) := by decide +kernel
theorem dX10_comesTo_44 : decode cX10_comesTo 44 = .ok (.goto 25, 3) := by decide +kernel
theorem dX10_comesTo_47 : decode cX10_comesTo 47 = .ok (.iload_n 2, 1) := by decide +kernel
theorem dX10_comesTo_48 : decode cX10_comesTo 48 = .ok (.iload_n 3, 1) := by decide +kernel
theorem dX10_comesTo_49 : decode cX10_comesTo 49 = .ok (.invokestatic 148, 3) := by decide +kernel
theorem dX10_comesTo_52 : decode cX10_comesTo 52 = .ok (.ifCond .eq 16, 3) := by decide +kernel
theorem dX10_comesTo_55 : decode cX10_comesTo 55 = .ok (.iload 4, 2) := by decide +kernel
theorem dX10_comesTo_57 : decode cX10_comesTo 57 = .ok (.ifCond .eq 7, 3) := by decide +kernel
theorem dX10_comesTo_60 : decode cX10_comesTo 60 = .ok (.iconst 2, 1) := by decide +kernel
theorem dX10_comesTo_61 : decode cX10_comesTo 61 = .ok (.goto 8, 3) := by decide +kernel
theorem dX10_comesTo_64 : decode cX10_comesTo 64 = .ok (.iconst 1, 1) := by decide +kernel
theorem dX10_comesTo_65 : decode cX10_comesTo 65 = .ok (.goto 4, 3) := by decide +kernel
theorem dX10_comesTo_68 : decode cX10_comesTo 68 = .ok (.iconst 0, 1) := by decide +kernel
theorem dX10_comesTo_69 : decode cX10_comesTo 69 = .ok (.ireturn, 1) := by decide +kernel
set_option maxRecDepth 20000 in
theorem ggX10_isFit_X10_comesTo : GoodIn wsX10_isFit wsX10_comesTo := goodIn_r _ [8, 9, 10, 7, 11] (by decide +kernel) (by decide +kernel)
set_option maxRecDepth 20000 in
theorem gX10_isFit_X10_comesTo : GoodIn wsX10_isFit (va_wsS RX10 277 yX10_comesTo wsX10_comesTo) := goodIn_app (goodIn_of _ (by decide +kernel)) ggX10_isFit_X10_comesTo
theorem dX10_isFit_0 : decode cX10_isFit 0 = .ok (.iconst 1, 1) := by decide +kernel
theorem dX10_isFit_1 : decode cX10_isFit 1 = .ok (.istore_n 2, 1) := by decide +kernel
theorem dX10_isFit_2 : decode cX10_isFit 2 = .ok (.iconst 0, 1) := by decide +kernel
theorem dX10_isFit_3 : decode cX10_isFit 3 = .ok (.istore_n 3, 1) := by decide +kernel
theorem dX10_isFit_4 : decode cX10_isFit 4 = .ok (.iload_n 3, 1) := by decide +kernel
theorem dX10_isFit_5 : decode cX10_isFit 5 = .ok (.aload_n 0, 1) := by decide +kernel
theorem dX10_isFit_6 : decode cX10_isFit 6 = .ok (.getfield 274, 3) := by decide +kernel
theorem dX10_isFit_9 : decode cX10_isFit 9 = .ok (.if_icmp .ge 44, 3) := by decide +kernel
theorem dX10_isFit_12 : decode cX10_isFit 12 = .ok (.iload_n 2, 1) := by decide +kernel
theorem dX10_isFit_13 : decode cX10_isFit 13 = .ok (.ifCond .eq 32, 3) := by decide +kernel
theorem dX10_isFit_16 : decode cX10_isFit 16 = .ok (.iload_n 1, 1) := by decide +kernel
theorem dX10_isFit_17 : decode cX10_isFit 17 = .ok (.aload_n 0, 1) := by decide +kernel
theorem dX10_isFit_18 : decode cX10_isFit 18 = .ok (.getfield 22, 3) := by decide +kernel
theorem dX10_isFit_21 : decode cX10_isFit 21 = .ok (.iload_n 3, 1) := by decide +kernel
theorem dX10_isFit_22 : decode cX10_isFit 22 = .ok (.iaload, 1) := by decide +kernel
theorem dX10_isFit_23 : decode cX10_isFit 23 = .ok (.aload_n 0, 1) := by decide +kernel
theorem dX10_isFit_24 : decode cX10_isFit 24 = .ok (.getfield 25, 3) := by decide +kernel
theorem dX10_isFit_27 : decode cX10_isFit 27 = .ok (.iload_n 3, 1) := by decide +kernel
theorem dX10_isFit_28 : decode cX10_isFit 28 = .ok (.iaload, 1) := by decide +kernel
theorem dX10_isFit_29 : decode cX10_isFit 29 = .ok (.invokestatic 277, 3) := by decide +kernel
theorem dX10_isFit_32 : decode cX10_isFit 32 = .ok (.aload_n 0, 1) := by decide +kernel
theorem dX10_isFit_33 : decode cX10_isFit 33 = .ok (.getfield 28, 3) := by decide +kernel
theorem dX10_isFit_36 : decode cX10_isFit 36 = .ok (.iload_n 3, 1) := by decide +kernel
theorem dX10_isFit_37 : decode cX10_isFit 37 = .ok (.iaload, 1) := by decide +kernel
theorem dX10_isFit_38 : decode cX10_isFit 38 = .ok (.if_icmp .ne 7, 3) := by decide +kernel
theorem dX10_isFit_41 : decode cX10_isFit 41 = .ok (.iconst 1, 1) := by decide +kernel
theorem dX10_isFit_42 : decode cX10_isFit 42 = .ok (.goto 4, 3) := by decide +kernel
theorem dX10_isFit_45 : decode cX10_isFit 45 = .ok (.iconst 0, 1) := by decide +kernel
theorem dX10_isFit_46 : decode cX10_isFit 46 = .ok (.istore_n 2, 1) := by decide +kernel
theorem dX10_isFit_47 : decode cX10_isFit 47 = .ok (.iinc 3 1, 3) := by decide +kernel
theorem dX10_isFit_50 : decode cX10_isFit 50 = .ok (.goto (-46), 3) := by decide +kernel
theorem dX10_isFit_53 : decode cX10_isFit 53 = .ok (.iload_n 2, 1) := by decide +kernel
theorem dX10_isFit_54 : decode cX10_isFit 54 = .ok (.ireturn, 1) := by decide +kernel
set_option maxRecDepth 20000 in
theorem ggX10_cases_X10_isFit : GoodIn wsX10_cases wsX10_isFit := goodIn_r _ [5, 6, 7, 8, 9, 10, 11, 4, 12, 13, 14, 15, 16, 17, 18, 19, 20, 21, 22, 23, 24, 25, 26, 27, 28, 29, 30, 31, 32, 33, 34, 35, 36, 37, 38, 39, 40, 41, 42, 43, 44, 45, 46, 47, 48, 49] (by decide +kernel) (by decide +kernel)
set_option maxRecDepth 20000 in
theorem gX10_cases_X10_isFit : GoodIn wsX10_cases (wsV RX10 280 RX10 yX10_isFit wsX10_isFit) := goodIn_app (goodIn_of _ (by decide +kernel)) ggX10_cases_X10_isFit
theorem dX10_cases_0 : decode cX10_cases 0 = .ok (.iconst 0, 1) := by decide +kernel
theorem dX10_cases_1 : decode cX10_cases 1 = .ok (.istore_n 2, 1) := by decide +kernel
theorem dX10_cases_2 : decode cX10_cases 2 = .ok (.iconst 0, 1) := by decide +kernel
theorem dX10_cases_3 : decode cX10_cases 3 = .ok (.istore_n 3, 1) := by decide +kernel
theorem dX10_cases_4 : decode cX10_cases 4 = .ok (.iload_n 3, 1) := by decide +kernel
theorem dX10_cases_5 : decode cX10_cases 5 = .ok (.bipush 25, 2) := by decide +kernel
theorem dX10_cases_7 : decode cX10_cases 7 = .ok (.if_icmp .ge 27, 3) := by decide +kernel
theorem dX10_cases_10 : decode cX10_cases 10 = .ok (.aload_n 0, 1) := by decide +kernel
theorem dX10_cases_11 : decode cX10_cases 11 = .ok (.iload_n 3, 1) := by decide +kernel
theorem dX10_cases_12 : decode cX10_cases 12 = .ok (.invokevirtual 280, 3) := by decide +kernel
theorem dX10_cases_15 : decode cX10_cases 15 = .ok (.ifCond .eq 13, 3) := by decide +kernel
theorem dX10_cases_18 : decode cX10_cases 18 = .ok (.iload_n 2, 1) := by decide +kernel
theorem dX10_cases_19 : decode cX10_cases 19 = .ok (.iload_n 1, 1) := by decide +kernel
theorem dX10_cases_20 : decode cX10_cases 20 = .ok (.if_icmp .ne 5, 3) := by decide +kernel
theorem dX10_cases_23 : decode cX10_cases 23 = .ok (.iload_n 3, 1) := by decide +kernel
theorem dX10_cases_24 : decode cX10_cases 24 = .ok (.ireturn, 1) := by decide +kernel
theorem dX10_cases_25 : decode cX10_cases 25 = .ok (.iinc 2 1, 3) := by decide +kernel
theorem dX10_cases_28 : decode cX10_cases 28 = .ok (.iinc 3 1, 3) := by decide +kernel
theorem dX10_cases_31 : decode cX10_cases 31 = .ok (.goto (-27), 3) := by decide +kernel
theorem dX10_cases_34 : decode cX10_cases 34 = .ok (.iload_n 1, 1) := by decide +kernel
theorem dX10_cases_35 : decode cX10_cases 35 = .ok (.iconst (-1), 1) := by decide +kernel
theorem dX10_cases_36 : decode cX10_cases 36 = .ok (.if_icmp .ne 7, 3) := by decide +kernel
theorem dX10_cases_39 : decode cX10_cases 39 = .ok (.iload_n 2, 1) := by decide +kernel
theorem dX10_cases_40 : decode cX10_cases 40 = .ok (.goto 5, 3) := by decide +kernel
theorem dX10_cases_43 : decode cX10_cases 43 = .ok (.bipush (-6), 2) := by decide +kernel
theorem dX10_cases_45 : decode cX10_cases 45 = .ok (.ireturn, 1) := by decide +kernel
set_option maxRecDepth 20000 in
theorem ggX10_leaves_X10_isWeighing : GoodIn wsX10_leaves wsX10_isWeighing := goodIn_r _ [5, 6, 7, 8, 4, 9, 10, 11, 12] (by decide +kernel) (by decide +kernel)
set_option maxRecDepth 20000 in
theorem gX10_leaves_X10_isWeighing : GoodIn wsX10_leaves (va_wsS RX10 271 yX10_isWeighing wsX10_isWeighing) := goodIn_app (goodIn_of _ (by decide +kernel)) ggX10_leaves_X10_isWeighing
set_option maxRecDepth 20000 in
theorem ggX10_leaves_X10_comesTo : GoodIn wsX10_leaves wsX10_comesTo := goodIn_r _ [15, 16, 17, 4, 18] (by decide +kernel) (by decide +kernel)
set_option maxRecDepth 20000 in
theorem gX10_leaves_X10_comesTo : GoodIn wsX10_leaves (va_wsS RX10 277 yX10_comesTo wsX10_comesTo) := goodIn_app (goodIn_of _ (by decide +kernel)) ggX10_leaves_X10_comesTo
set_option maxRecDepth 20000 in
theorem ggX10_leaves_X10_isFit : GoodIn wsX10_leaves wsX10_isFit := goodIn_r _ [22, 23, 24, 25, 26, 13, 14, 4, 15, 16, 17, 18, 27, 28, 29, 30, 31, 32, 33, 34, 35, 36, 37, 38, 39, 40, 41, 42, 43, 44, 45, 46, 47, 48, 49, 50, 51, 52, 53, 54, 55, 56, 57, 58, 59, 60] (by decide +kernel) (by decide +kernel)
set_option maxRecDepth 20000 in
theorem gX10_leaves_X10_isFit : GoodIn wsX10_leaves (wsV RX10 280 RX10 yX10_isFit wsX10_isFit) := goodIn_app (goodIn_of _ (by decide +kernel)) ggX10_leaves_X10_isFit
theorem dX10_leaves_0 : decode cX10_leaves 0 = .ok (.iload_n 1, 1) := by decide +kernel
theorem dX10_leaves_1 : decode cX10_leaves 1 = .ok (.iload_n 2, 1) := by decide +kernel
theorem dX10_leaves_2 : decode cX10_leaves 2 = .ok (.invokestatic 271, 3) := by decide +kernel
theorem dX10_leaves_5 : decode cX10_leaves 5 = .ok (.ifCond .ne 6, 3) := by decide +kernel
theorem dX10_leaves_8 : decode cX10_leaves 8 = .ok (.bipush (-2), 2) := by decide +kernel
theorem dX10_leaves_10 : decode cX10_leaves 10 = .ok (.ireturn, 1) := by decide +kernel
theorem dX10_leaves_11 : decode cX10_leaves 11 = .ok (.iconst 0, 1) := by decide +kernel
theorem dX10_leaves_12 : decode cX10_leaves 12 = .ok (.istore_n 3, 1) := by decide +kernel
theorem dX10_leaves_13 : decode cX10_leaves 13 = .ok (.iconst 0, 1) := by decide +kernel
theorem dX10_leaves_14 : decode cX10_leaves 14 = .ok (.istore 4, 2) := by decide +kernel
theorem dX10_leaves_16 : decode cX10_leaves 16 = .ok (.iload 4, 2) := by decide +kernel
theorem dX10_leaves_18 : decode cX10_leaves 18 = .ok (.iconst 3, 1) := by decide +kernel
theorem dX10_leaves_19 : decode cX10_leaves 19 = .ok (.if_icmp .ge 17, 3) := by decide +kernel
theorem dX10_leaves_22 : decode cX10_leaves 22 = .ok (.aload_n 0, 1) := by decide +kernel
theorem dX10_leaves_23 : decode cX10_leaves 23 = .ok (.getfield 64, 3) := by decide +kernel
theorem dX10_leaves_26 : decode cX10_leaves 26 = .ok (.iload 4, 2) := by decide +kernel
theorem dX10_leaves_28 : decode cX10_leaves 28 = .ok (.iconst 0, 1) := by decide +kernel
theorem dX10_leaves_29 : decode cX10_leaves 29 = .ok (.iastore, 1) := by decide +kernel
theorem dX10_leaves_30 : decode cX10_leaves 30 = .ok (.iinc 4 1, 3) := by decide +kernel
theorem dX10_leaves_33 : decode cX10_leaves 33 = .ok (.goto (-17), 3) := by decide +kernel
theorem dX10_leaves_36 : decode cX10_leaves 36 = .ok (.iconst 0, 1) := by decide +kernel
theorem dX10_leaves_37 : decode cX10_leaves 37 = .ok (.istore 4, 2) := by decide +kernel
theorem dX10_leaves_39 : decode cX10_leaves 39 = .ok (.iload 4, 2) := by decide +kernel
theorem dX10_leaves_41 : decode cX10_leaves 41 = .ok (.bipush 25, 2) := by decide +kernel
theorem dX10_leaves_43 : decode cX10_leaves 43 = .ok (.if_icmp .ge 65, 3) := by decide +kernel
theorem dX10_leaves_46 : decode cX10_leaves 46 = .ok (.iload 4, 2) := by decide +kernel
theorem dX10_leaves_48 : decode cX10_leaves 48 = .ok (.iload_n 1, 1) := by decide +kernel
theorem dX10_leaves_49 : decode cX10_leaves 49 = .ok (.iload_n 2, 1) := by decide +kernel
theorem dX10_leaves_50 : decode cX10_leaves 50 = .ok (.invokestatic 277, 3) := by decide +kernel
theorem dX10_leaves_53 : decode cX10_leaves 53 = .ok (.istore 5, 2) := by decide +kernel
theorem dX10_leaves_55 : decode cX10_leaves 55 = .ok (.aload_n 0, 1) := by decide +kernel
theorem dX10_leaves_56 : decode cX10_leaves 56 = .ok (.getfield 64, 3) := by decide +kernel
theorem dX10_leaves_59 : decode cX10_leaves 59 = .ok (.iload 5, 2) := by decide +kernel
theorem dX10_leaves_61 : decode cX10_leaves 61 = .ok (.dup2, 1) := by decide +kernel
theorem dX10_leaves_62 : decode cX10_leaves 62 = .ok (.iaload, 1) := by decide +kernel
theorem dX10_leaves_63 : decode cX10_leaves 63 = .ok (.aload_n 0, 1) := by decide +kernel
theorem dX10_leaves_64 : decode cX10_leaves 64 = .ok (.iload 4, 2) := by decide +kernel
theorem dX10_leaves_66 : decode cX10_leaves 66 = .ok (.invokevirtual 280, 3) := by decide +kernel
theorem dX10_leaves_69 : decode cX10_leaves 69 = .ok (.ifCond .eq 7, 3) := by decide +kernel
theorem dX10_leaves_72 : decode cX10_leaves 72 = .ok (.iconst 1, 1) := by decide +kernel
theorem dX10_leaves_73 : decode cX10_leaves 73 = .ok (.goto 4, 3) := by decide +kernel
theorem dX10_leaves_76 : decode cX10_leaves 76 = .ok (.iconst 0, 1) := by decide +kernel
theorem dX10_leaves_77 : decode cX10_leaves 77 = .ok (.iadd, 1) := by decide +kernel
theorem dX10_leaves_78 : decode cX10_leaves 78 = .ok (.iastore, 1) := by decide +kernel
theorem dX10_leaves_79 : decode cX10_leaves 79 = .ok (.aload_n 0, 1) := by decide +kernel
theorem dX10_leaves_80 : decode cX10_leaves 80 = .ok (.getfield 64, 3) := by decide +kernel
theorem dX10_leaves_83 : decode cX10_leaves 83 = .ok (.iload 5, 2) := by decide +kernel
theorem dX10_leaves_85 : decode cX10_leaves 85 = .ok (.iaload, 1) := by decide +kernel
theorem dX10_leaves_86 : decode cX10_leaves 86 = .ok (.iload_n 3, 1) := by decide +kernel
theorem dX10_leaves_87 : decode cX10_leaves 87 = .ok (.if_icmp .le 13, 3) := by decide +kernel
theorem dX10_leaves_90 : decode cX10_leaves 90 = .ok (.aload_n 0, 1) := by decide +kernel
theorem dX10_leaves_91 : decode cX10_leaves 91 = .ok (.getfield 64, 3) := by decide +kernel
theorem dX10_leaves_94 : decode cX10_leaves 94 = .ok (.iload 5, 2) := by decide +kernel
theorem dX10_leaves_96 : decode cX10_leaves 96 = .ok (.iaload, 1) := by decide +kernel
theorem dX10_leaves_97 : decode cX10_leaves 97 = .ok (.goto 4, 3) := by decide +kernel
theorem dX10_leaves_100 : decode cX10_leaves 100 = .ok (.iload_n 3, 1) := by decide +kernel
theorem dX10_leaves_101 : decode cX10_leaves 101 = .ok (.istore_n 3, 1) := by decide +kernel
theorem dX10_leaves_102 : decode cX10_leaves 102 = .ok (.iinc 4 1, 3) := by decide +kernel
theorem dX10_leaves_105 : decode cX10_leaves 105 = .ok (.goto (-66), 3) := by decide +kernel
theorem dX10_leaves_108 : decode cX10_leaves 108 = .ok (.iload_n 3, 1) := by decide +kernel
theorem dX10_leaves_109 : decode cX10_leaves 109 = .ok (.ireturn, 1) := by decide +kernel
theorem dX10_leastTake_0 : decode cX10_leastTake 0 = .ok (.bipush (-6), 2) := by decide +kernel
theorem dX10_leastTake_2 : decode cX10_leastTake 2 = .ok (.istore_n 2, 1) := by decide +kernel
theorem dX10_leastTake_3 : decode cX10_leastTake 3 = .ok (.bipush 31, 2) := by decide +kernel
theorem dX10_leastTake_5 : decode cX10_leastTake 5 = .ok (.istore_n 3, 1) := by decide +kernel
theorem dX10_leastTake_6 : decode cX10_leastTake 6 = .ok (.iload_n 3, 1) := by decide +kernel
theorem dX10_leastTake_7 : decode cX10_leastTake 7 = .ok (.ifCond .le 37, 3) := by decide +kernel
theorem dX10_leastTake_10 : decode cX10_leastTake 10 = .ok (.iload_n 3, 1) := by decide +kernel
theorem dX10_leastTake_11 : decode cX10_leastTake 11 = .ok (.iload_n 3, 1) := by decide +kernel
theorem dX10_leastTake_12 : decode cX10_leastTake 12 = .ok (.imul, 1) := by decide +kernel
theorem dX10_leastTake_13 : decode cX10_leastTake 13 = .ok (.iload_n 1, 1) := by decide +kernel
theorem dX10_leastTake_14 : decode cX10_leastTake 14 = .ok (.if_icmp .gt 22, 3) := by decide +kernel
theorem dX10_leastTake_17 : decode cX10_leastTake 17 = .ok (.aload_n 0, 1) := by decide +kernel
theorem dX10_leastTake_18 : decode cX10_leastTake 18 = .ok (.getfield 67, 3) := by decide +kernel
theorem dX10_leastTake_21 : decode cX10_leastTake 21 = .ok (.iload_n 1, 1) := by decide +kernel
theorem dX10_leastTake_22 : decode cX10_leastTake 22 = .ok (.iload_n 3, 1) := by decide +kernel
theorem dX10_leastTake_23 : decode cX10_leastTake 23 = .ok (.iload_n 3, 1) := by decide +kernel
theorem dX10_leastTake_24 : decode cX10_leastTake 24 = .ok (.imul, 1) := by decide +kernel
theorem dX10_leastTake_25 : decode cX10_leastTake 25 = .ok (.isub, 1) := by decide +kernel
theorem dX10_leastTake_26 : decode cX10_leastTake 26 = .ok (.baload, 1) := by decide +kernel
theorem dX10_leastTake_27 : decode cX10_leastTake 27 = .ok (.ifCond .ne 9, 3) := by decide +kernel
theorem dX10_leastTake_30 : decode cX10_leastTake 30 = .ok (.iload_n 3, 1) := by decide +kernel
theorem dX10_leastTake_31 : decode cX10_leastTake 31 = .ok (.iload_n 3, 1) := by decide +kernel
theorem dX10_leastTake_32 : decode cX10_leastTake 32 = .ok (.imul, 1) := by decide +kernel
theorem dX10_leastTake_33 : decode cX10_leastTake 33 = .ok (.goto 4, 3) := by decide +kernel
theorem dX10_leastTake_36 : decode cX10_leastTake 36 = .ok (.iload_n 2, 1) := by decide +kernel
theorem dX10_leastTake_37 : decode cX10_leastTake 37 = .ok (.istore_n 2, 1) := by decide +kernel
theorem dX10_leastTake_38 : decode cX10_leastTake 38 = .ok (.iinc 3 (-1), 3) := by decide +kernel
theorem dX10_leastTake_41 : decode cX10_leastTake 41 = .ok (.goto (-35), 3) := by decide +kernel
theorem dX10_leastTake_44 : decode cX10_leastTake 44 = .ok (.iload_n 2, 1) := by decide +kernel
theorem dX10_leastTake_45 : decode cX10_leastTake 45 = .ok (.ireturn, 1) := by decide +kernel
set_option maxRecDepth 20000 in
theorem ggX10_squares_X10_in : GoodIn wsX10_squares wsX10_in := goodIn_r _ [6] (by decide +kernel) (by decide +kernel)
set_option maxRecDepth 20000 in
theorem gX10_squares_X10_in : GoodIn wsX10_squares (va_wsS RX10 79 yX10_in wsX10_in) := goodIn_app (goodIn_of _ (by decide +kernel)) ggX10_squares_X10_in
set_option maxRecDepth 20000 in
theorem ggX10_squares_X10_leastTake : GoodIn wsX10_squares wsX10_leastTake := goodIn_r _ [10, 2, 11, 12, 13, 14, 15, 16, 17, 18, 19, 20, 21, 22, 23, 24, 25, 26, 27, 28, 29, 30, 31, 32, 33, 34, 35, 36, 37, 38, 39, 40, 41, 42, 43, 44] (by decide +kernel) (by decide +kernel)
set_option maxRecDepth 20000 in
theorem gX10_squares_X10_leastTake : GoodIn wsX10_squares (wsV RX10 283 RX10 yX10_leastTake wsX10_leastTake) := goodIn_app (goodIn_of _ (by decide +kernel)) ggX10_squares_X10_leastTake
theorem dX10_squares_0 : decode cX10_squares 0 = .ok (.iload_n 1, 1) := by decide +kernel
theorem dX10_squares_1 : decode cX10_squares 1 = .ok (.i2l, 1) := by decide +kernel
theorem dX10_squares_2 : decode cX10_squares 2 = .ok (.lconst 0, 1) := by decide +kernel
theorem dX10_squares_3 : decode cX10_squares 3 = .ok (.ldc2_w 104, 3) := by decide +kernel
theorem dX10_squares_6 : decode cX10_squares 6 = .ok (.invokestatic 79, 3) := by decide +kernel
theorem dX10_squares_9 : decode cX10_squares 9 = .ok (.ifCond .eq 13, 3) := by decide +kernel
theorem dX10_squares_12 : decode cX10_squares 12 = .ok (.iload_n 2, 1) := by decide +kernel
theorem dX10_squares_13 : decode cX10_squares 13 = .ok (.i2l, 1) := by decide +kernel
theorem dX10_squares_14 : decode cX10_squares 14 = .ok (.lconst 0, 1) := by decide +kernel
theorem dX10_squares_15 : decode cX10_squares 15 = .ok (.lconst 1, 1) := by decide +kernel
theorem dX10_squares_16 : decode cX10_squares 16 = .ok (.invokestatic 79, 3) := by decide +kernel
theorem dX10_squares_19 : decode cX10_squares 19 = .ok (.ifCond .ne 6, 3) := by decide +kernel
theorem dX10_squares_22 : decode cX10_squares 22 = .ok (.bipush (-2), 2) := by decide +kernel
theorem dX10_squares_24 : decode cX10_squares 24 = .ok (.ireturn, 1) := by decide +kernel
theorem dX10_squares_25 : decode cX10_squares 25 = .ok (.iconst 0, 1) := by decide +kernel
theorem dX10_squares_26 : decode cX10_squares 26 = .ok (.istore_n 3, 1) := by decide +kernel
theorem dX10_squares_27 : decode cX10_squares 27 = .ok (.iload_n 3, 1) := by decide +kernel
theorem dX10_squares_28 : decode cX10_squares 28 = .ok (.iload_n 1, 1) := by decide +kernel
theorem dX10_squares_29 : decode cX10_squares 29 = .ok (.if_icmp .gt 28, 3) := by decide +kernel
theorem dX10_squares_32 : decode cX10_squares 32 = .ok (.aload_n 0, 1) := by decide +kernel
theorem dX10_squares_33 : decode cX10_squares 33 = .ok (.getfield 67, 3) := by decide +kernel
theorem dX10_squares_36 : decode cX10_squares 36 = .ok (.iload_n 3, 1) := by decide +kernel
theorem dX10_squares_37 : decode cX10_squares 37 = .ok (.aload_n 0, 1) := by decide +kernel
theorem dX10_squares_38 : decode cX10_squares 38 = .ok (.iload_n 3, 1) := by decide +kernel
theorem dX10_squares_39 : decode cX10_squares 39 = .ok (.invokevirtual 283, 3) := by decide +kernel
theorem dX10_squares_42 : decode cX10_squares 42 = .ok (.ifCond .lt 7, 3) := by decide +kernel
theorem dX10_squares_45 : decode cX10_squares 45 = .ok (.iconst 1, 1) := by decide +kernel
theorem dX10_squares_46 : decode cX10_squares 46 = .ok (.goto 4, 3) := by decide +kernel
theorem dX10_squares_49 : decode cX10_squares 49 = .ok (.iconst 0, 1) := by decide +kernel
theorem dX10_squares_50 : decode cX10_squares 50 = .ok (.bastore, 1) := by decide +kernel
theorem dX10_squares_51 : decode cX10_squares 51 = .ok (.iinc 3 1, 3) := by decide +kernel
theorem dX10_squares_54 : decode cX10_squares 54 = .ok (.goto (-27), 3) := by decide +kernel
theorem dX10_squares_57 : decode cX10_squares 57 = .ok (.iload_n 2, 1) := by decide +kernel
theorem dX10_squares_58 : decode cX10_squares 58 = .ok (.iconst 1, 1) := by decide +kernel
theorem dX10_squares_59 : decode cX10_squares 59 = .ok (.if_icmp .ne 11, 3) := by decide +kernel
theorem dX10_squares_62 : decode cX10_squares 62 = .ok (.aload_n 0, 1) := by decide +kernel
theorem dX10_squares_63 : decode cX10_squares 63 = .ok (.iload_n 1, 1) := by decide +kernel
theorem dX10_squares_64 : decode cX10_squares 64 = .ok (.invokevirtual 283, 3) := by decide +kernel
theorem dX10_squares_67 : decode cX10_squares 67 = .ok (.goto 17, 3) := by decide +kernel
theorem dX10_squares_70 : decode cX10_squares 70 = .ok (.aload_n 0, 1) := by decide +kernel
theorem dX10_squares_71 : decode cX10_squares 71 = .ok (.getfield 67, 3) := by decide +kernel
theorem dX10_squares_74 : decode cX10_squares 74 = .ok (.iload_n 1, 1) := by decide +kernel
theorem dX10_squares_75 : decode cX10_squares 75 = .ok (.baload, 1) := by decide +kernel
theorem dX10_squares_76 : decode cX10_squares 76 = .ok (.ifCond .eq 7, 3) := by decide +kernel
theorem dX10_squares_79 : decode cX10_squares 79 = .ok (.iconst 1, 1) := by decide +kernel
theorem dX10_squares_80 : decode cX10_squares 80 = .ok (.goto 4, 3) := by decide +kernel
theorem dX10_squares_83 : decode cX10_squares 83 = .ok (.iconst 0, 1) := by decide +kernel
theorem dX10_squares_84 : decode cX10_squares 84 = .ok (.ireturn, 1) := by decide +kernel
theorem dX10_lowest_0 : decode cX10_lowest 0 = .ok (.lload_n 2, 1) := by decide +kernel
theorem dX10_lowest_1 : decode cX10_lowest 1 = .ok (.lstore 5, 2) := by decide +kernel
theorem dX10_lowest_3 : decode cX10_lowest 3 = .ok (.lload_n 0, 1) := by decide +kernel
theorem dX10_lowest_4 : decode cX10_lowest 4 = .ok (.lstore 7, 2) := by decide +kernel
theorem dX10_lowest_6 : decode cX10_lowest 6 = .ok (.lload 7, 2) := by decide +kernel
theorem dX10_lowest_8 : decode cX10_lowest 8 = .ok (.lconst 0, 1) := by decide +kernel
theorem dX10_lowest_9 : decode cX10_lowest 9 = .ok (.lcmp, 1) := by decide +kernel
theorem dX10_lowest_10 : decode cX10_lowest 10 = .ok (.ifCond .eq 21, 3) := by decide +kernel
theorem dX10_lowest_13 : decode cX10_lowest 13 = .ok (.lload 5, 2) := by decide +kernel
theorem dX10_lowest_15 : decode cX10_lowest 15 = .ok (.lload 7, 2) := by decide +kernel
theorem dX10_lowest_17 : decode cX10_lowest 17 = .ok (.lrem, 1) := by decide +kernel
theorem dX10_lowest_18 : decode cX10_lowest 18 = .ok (.lstore 9, 2) := by decide +kernel
theorem dX10_lowest_20 : decode cX10_lowest 20 = .ok (.lload 7, 2) := by decide +kernel
theorem dX10_lowest_22 : decode cX10_lowest 22 = .ok (.lstore 5, 2) := by decide +kernel
theorem dX10_lowest_24 : decode cX10_lowest 24 = .ok (.lload 9, 2) := by decide +kernel
theorem dX10_lowest_26 : decode cX10_lowest 26 = .ok (.lstore 7, 2) := by decide +kernel
theorem dX10_lowest_28 : decode cX10_lowest 28 = .ok (.goto (-22), 3) := by decide +kernel
theorem dX10_lowest_31 : decode cX10_lowest 31 = .ok (.iload 4, 2) := by decide +kernel
theorem dX10_lowest_33 : decode cX10_lowest 33 = .ok (.ifCond .ne 10, 3) := by decide +kernel
theorem dX10_lowest_36 : decode cX10_lowest 36 = .ok (.lload_n 0, 1) := by decide +kernel
theorem dX10_lowest_37 : decode cX10_lowest 37 = .ok (.lload 5, 2) := by decide +kernel
theorem dX10_lowest_39 : decode cX10_lowest 39 = .ok (.ldiv, 1) := by decide +kernel
theorem dX10_lowest_40 : decode cX10_lowest 40 = .ok (.goto 7, 3) := by decide +kernel
theorem dX10_lowest_43 : decode cX10_lowest 43 = .ok (.lload_n 2, 1) := by decide +kernel
theorem dX10_lowest_44 : decode cX10_lowest 44 = .ok (.lload 5, 2) := by decide +kernel
theorem dX10_lowest_46 : decode cX10_lowest 46 = .ok (.ldiv, 1) := by decide +kernel
theorem dX10_lowest_47 : decode cX10_lowest 47 = .ok (.lreturn, 1) := by decide +kernel
set_option maxRecDepth 20000 in
theorem ggX10_lot_X10_in : GoodIn wsX10_lot wsX10_in := goodIn_r _ [10] (by decide +kernel) (by decide +kernel)
set_option maxRecDepth 20000 in
theorem gX10_lot_X10_in : GoodIn wsX10_lot (va_wsS RX10 79 yX10_in wsX10_in) := goodIn_app (goodIn_of _ (by decide +kernel)) ggX10_lot_X10_in
set_option maxRecDepth 20000 in
theorem ggX10_lot_X10_isPlace : GoodIn wsX10_lot wsX10_isPlace := goodIn_r _ [13, 4, 7, 8, 9, 10] (by decide +kernel) (by decide +kernel)
set_option maxRecDepth 20000 in
theorem gX10_lot_X10_isPlace : GoodIn wsX10_lot (va_wsS RX10 129 yX10_isPlace wsX10_isPlace) := goodIn_app (goodIn_of _ (by decide +kernel)) ggX10_lot_X10_isPlace
set_option maxRecDepth 20000 in
theorem ggX10_lot_X10_lowest : GoodIn wsX10_lot wsX10_lowest := goodIn_r _ [16] (by decide +kernel) (by decide +kernel)
set_option maxRecDepth 20000 in
theorem gX10_lot_X10_lowest : GoodIn wsX10_lot (va_wsS RX10 296 yX10_lowest wsX10_lowest) := goodIn_app (goodIn_of _ (by decide +kernel)) ggX10_lot_X10_lowest
theorem dX10_lot_0 : decode cX10_lot 0 = .ok (.iload_n 1, 1) := by decide +kernel
theorem dX10_lot_1 : decode cX10_lot 1 = .ok (.i2l, 1) := by decide +kernel
theorem dX10_lot_2 : decode cX10_lot 2 = .ok (.lconst 0, 1) := by decide +kernel
theorem dX10_lot_3 : decode cX10_lot 3 = .ok (.ldc2_w 286, 3) := by decide +kernel
theorem dX10_lot_6 : decode cX10_lot 6 = .ok (.invokestatic 79, 3) := by decide +kernel
theorem dX10_lot_9 : decode cX10_lot 9 = .ok (.ifCond .eq 31, 3) := by decide +kernel
theorem dX10_lot_12 : decode cX10_lot 12 = .ok (.iload_n 2, 1) := by decide +kernel
theorem dX10_lot_13 : decode cX10_lot 13 = .ok (.invokestatic 129, 3) := by decide +kernel
theorem dX10_lot_16 : decode cX10_lot 16 = .ok (.ifCond .eq 24, 3) := by decide +kernel
theorem dX10_lot_19 : decode cX10_lot 19 = .ok (.iload_n 3, 1) := by decide +kernel
theorem dX10_lot_20 : decode cX10_lot 20 = .ok (.i2l, 1) := by decide +kernel
theorem dX10_lot_21 : decode cX10_lot 21 = .ok (.lconst 0, 1) := by decide +kernel
theorem dX10_lot_22 : decode cX10_lot 22 = .ok (.lconst 1, 1) := by decide +kernel
theorem dX10_lot_23 : decode cX10_lot 23 = .ok (.invokestatic 79, 3) := by decide +kernel
theorem dX10_lot_26 : decode cX10_lot 26 = .ok (.ifCond .eq 14, 3) := by decide +kernel
theorem dX10_lot_29 : decode cX10_lot 29 = .ok (.iload 4, 2) := by decide +kernel
theorem dX10_lot_31 : decode cX10_lot 31 = .ok (.i2l, 1) := by decide +kernel
theorem dX10_lot_32 : decode cX10_lot 32 = .ok (.lconst 0, 1) := by decide +kernel
theorem dX10_lot_33 : decode cX10_lot 33 = .ok (.lconst 1, 1) := by decide +kernel
theorem dX10_lot_34 : decode cX10_lot 34 = .ok (.invokestatic 79, 3) := by decide +kernel
theorem dX10_lot_37 : decode cX10_lot 37 = .ok (.ifCond .ne 7, 3) := by decide +kernel
theorem dX10_lot_40 : decode cX10_lot 40 = .ok (.ldc2_w 288, 3) := by decide +kernel
theorem dX10_lot_43 : decode cX10_lot 43 = .ok (.lreturn, 1) := by decide +kernel
theorem dX10_lot_44 : decode cX10_lot 44 = .ok (.lconst 1, 1) := by decide +kernel
theorem dX10_lot_45 : decode cX10_lot 45 = .ok (.lstore 5, 2) := by decide +kernel
theorem dX10_lot_47 : decode cX10_lot 47 = .ok (.lconst 0, 1) := by decide +kernel
theorem dX10_lot_48 : decode cX10_lot 48 = .ok (.lstore 7, 2) := by decide +kernel
theorem dX10_lot_50 : decode cX10_lot 50 = .ok (.lconst 1, 1) := by decide +kernel
theorem dX10_lot_51 : decode cX10_lot 51 = .ok (.lstore 9, 2) := by decide +kernel
theorem dX10_lot_53 : decode cX10_lot 53 = .ok (.lconst 1, 1) := by decide +kernel
theorem dX10_lot_54 : decode cX10_lot 54 = .ok (.lstore 11, 2) := by decide +kernel
theorem dX10_lot_56 : decode cX10_lot 56 = .ok (.iconst 0, 1) := by decide +kernel
theorem dX10_lot_57 : decode cX10_lot 57 = .ok (.istore 13, 2) := by decide +kernel
theorem dX10_lot_59 : decode cX10_lot 59 = .ok (.iload 13, 2) := by decide +kernel
theorem dX10_lot_61 : decode cX10_lot 61 = .ok (.iload_n 1, 1) := by decide +kernel
theorem dX10_lot_62 : decode cX10_lot 62 = .ok (.if_icmp .ge 55, 3) := by decide +kernel
theorem dX10_lot_65 : decode cX10_lot 65 = .ok (.ldc2_w 290, 3) := by decide +kernel
theorem dX10_lot_68 : decode cX10_lot 68 = .ok (.lload 5, 2) := by decide +kernel
theorem dX10_lot_70 : decode cX10_lot 70 = .ok (.lmul, 1) := by decide +kernel
theorem dX10_lot_71 : decode cX10_lot 71 = .ok (.ldc2_w 77, 3) := by decide +kernel
theorem dX10_lot_74 : decode cX10_lot 74 = .ok (.lload 7, 2) := by decide +kernel
theorem dX10_lot_76 : decode cX10_lot 76 = .ok (.lmul, 1) := by decide +kernel
theorem dX10_lot_77 : decode cX10_lot 77 = .ok (.ladd, 1) := by decide +kernel
theorem dX10_lot_78 : decode cX10_lot 78 = .ok (.lstore 14, 2) := by decide +kernel
theorem dX10_lot_80 : decode cX10_lot 80 = .ok (.lload 5, 2) := by decide +kernel
theorem dX10_lot_82 : decode cX10_lot 82 = .ok (.ldc2_w 292, 3) := by decide +kernel
theorem dX10_lot_85 : decode cX10_lot 85 = .ok (.lload 7, 2) := by decide +kernel
theorem dX10_lot_87 : decode cX10_lot 87 = .ok (.lmul, 1) := by decide +kernel
theorem dX10_lot_88 : decode cX10_lot 88 = .ok (.ladd, 1) := by decide +kernel
theorem dX10_lot_89 : decode cX10_lot 89 = .ok (.lstore 7, 2) := by decide +kernel
theorem dX10_lot_91 : decode cX10_lot 91 = .ok (.lload 14, 2) := by decide +kernel
theorem dX10_lot_93 : decode cX10_lot 93 = .ok (.lstore 5, 2) := by decide +kernel
theorem dX10_lot_95 : decode cX10_lot 95 = .ok (.lload 9, 2) := by decide +kernel
theorem dX10_lot_97 : decode cX10_lot 97 = .ok (.ldc2_w 290, 3) := by decide +kernel
theorem dX10_lot_100 : decode cX10_lot 100 = .ok (.lmul, 1) := by decide +kernel
theorem dX10_lot_101 : decode cX10_lot 101 = .ok (.lstore 9, 2) := by decide +kernel
theorem dX10_lot_103 : decode cX10_lot 103 = .ok (.lload 11, 2) := by decide +kernel
theorem dX10_lot_105 : decode cX10_lot 105 = .ok (.ldc2_w 294, 3) := by decide +kernel
theorem dX10_lot_108 : decode cX10_lot 108 = .ok (.lmul, 1) := by decide +kernel
theorem dX10_lot_109 : decode cX10_lot 109 = .ok (.lstore 11, 2) := by decide +kernel
theorem dX10_lot_111 : decode cX10_lot 111 = .ok (.iinc 13 1, 3) := by decide +kernel
theorem dX10_lot_114 : decode cX10_lot 114 = .ok (.goto (-55), 3) := by decide +kernel
theorem dX10_lot_117 : decode cX10_lot 117 = .ok (.iload_n 3, 1) := by decide +kernel
theorem dX10_lot_118 : decode cX10_lot 118 = .ok (.iconst 1, 1) := by decide +kernel
theorem dX10_lot_119 : decode cX10_lot 119 = .ok (.if_icmp .ne 8, 3) := by decide +kernel
theorem dX10_lot_122 : decode cX10_lot 122 = .ok (.lload 9, 2) := by decide +kernel
theorem dX10_lot_124 : decode cX10_lot 124 = .ok (.goto 14, 3) := by decide +kernel
theorem dX10_lot_127 : decode cX10_lot 127 = .ok (.iload_n 2, 1) := by decide +kernel
theorem dX10_lot_128 : decode cX10_lot 128 = .ok (.ifCond .ne 8, 3) := by decide +kernel
theorem dX10_lot_131 : decode cX10_lot 131 = .ok (.lload 5, 2) := by decide +kernel
theorem dX10_lot_133 : decode cX10_lot 133 = .ok (.goto 5, 3) := by decide +kernel
theorem dX10_lot_136 : decode cX10_lot 136 = .ok (.lload 7, 2) := by decide +kernel
theorem dX10_lot_138 : decode cX10_lot 138 = .ok (.lload 11, 2) := by decide +kernel
theorem dX10_lot_140 : decode cX10_lot 140 = .ok (.iload 4, 2) := by decide +kernel
theorem dX10_lot_142 : decode cX10_lot 142 = .ok (.invokestatic 296, 3) := by decide +kernel
theorem dX10_lot_145 : decode cX10_lot 145 = .ok (.lreturn, 1) := by decide +kernel
set_option maxRecDepth 20000 in
theorem ggX10_drawn_X10_whyNot : GoodIn wsX10_drawn wsX10_whyNot := goodIn_r _ [5, 6, 7, 8, 9, 46, 47, 48, 49, 50, 51, 52, 53, 54, 55, 56, 57, 58, 59, 60, 61, 62, 63, 64, 65, 66, 67, 68, 69, 70, 71, 72, 73, 74, 75, 76, 77, 78, 79] (by decide +kernel) (by decide +kernel)
set_option maxRecDepth 20000 in
theorem gX10_drawn_X10_whyNot : GoodIn wsX10_drawn (wsV RX10 201 RX10 yX10_whyNot wsX10_whyNot) := goodIn_app (goodIn_of _ (by decide +kernel)) ggX10_drawn_X10_whyNot
set_option maxRecDepth 20000 in
theorem ggX10_drawn_X10_happen : GoodIn wsX10_drawn wsX10_happen := goodIn_r _ [13, 6, 7, 9, 14, 15, 16, 4, 17, 18, 19, 20, 21, 22, 23, 24, 25, 26, 27, 28, 29, 30, 31, 32, 33, 34, 35, 36, 37, 38, 39, 40, 41, 8, 42, 43, 44, 45, 46, 47, 48, 49, 50, 51, 52, 53, 54, 55, 56, 57, 58, 59, 60, 61, 62, 63, 64, 65, 66, 67, 68, 69, 70, 71, 72, 73, 74, 75, 76, 77, 78, 79] (by decide +kernel) (by decide +kernel)
set_option maxRecDepth 20000 in
theorem gX10_drawn_X10_happen : GoodIn wsX10_drawn (wsV RX10 182 RX10 yX10_happen wsX10_happen) := goodIn_app (goodIn_of _ (by decide +kernel)) ggX10_drawn_X10_happen
theorem dX10_drawn_0 : decode cX10_drawn 0 = .ok (.iload_n 1, 1) := by decide +kernel
theorem dX10_drawn_1 : decode cX10_drawn 1 = .ok (.iconst 4, 1) := by decide +kernel
theorem dX10_drawn_2 : decode cX10_drawn 2 = .ok (.if_icmp .ge 7, 3) := by decide +kernel
theorem dX10_drawn_5 : decode cX10_drawn 5 = .ok (.iconst 0, 1) := by decide +kernel
theorem dX10_drawn_6 : decode cX10_drawn 6 = .ok (.goto 32, 3) := by decide +kernel
theorem dX10_drawn_9 : decode cX10_drawn 9 = .ok (.iload_n 1, 1) := by decide +kernel
theorem dX10_drawn_10 : decode cX10_drawn 10 = .ok (.iconst 4, 1) := by decide +kernel
theorem dX10_drawn_11 : decode cX10_drawn 11 = .ok (.if_icmp .ne 7, 3) := by decide +kernel
theorem dX10_drawn_14 : decode cX10_drawn 14 = .ok (.iconst 1, 1) := by decide +kernel
theorem dX10_drawn_15 : decode cX10_drawn 15 = .ok (.goto 23, 3) := by decide +kernel
theorem dX10_drawn_18 : decode cX10_drawn 18 = .ok (.iload_n 1, 1) := by decide +kernel
theorem dX10_drawn_19 : decode cX10_drawn 19 = .ok (.iconst 5, 1) := by decide +kernel
theorem dX10_drawn_20 : decode cX10_drawn 20 = .ok (.if_icmp .ne 7, 3) := by decide +kernel
theorem dX10_drawn_23 : decode cX10_drawn 23 = .ok (.iconst 2, 1) := by decide +kernel
theorem dX10_drawn_24 : decode cX10_drawn 24 = .ok (.goto 14, 3) := by decide +kernel
theorem dX10_drawn_27 : decode cX10_drawn 27 = .ok (.iload_n 1, 1) := by decide +kernel
theorem dX10_drawn_28 : decode cX10_drawn 28 = .ok (.bipush 6, 2) := by decide +kernel
theorem dX10_drawn_30 : decode cX10_drawn 30 = .ok (.if_icmp .ne 7, 3) := by decide +kernel
theorem dX10_drawn_33 : decode cX10_drawn 33 = .ok (.iconst 3, 1) := by decide +kernel
theorem dX10_drawn_34 : decode cX10_drawn 34 = .ok (.goto 4, 3) := by decide +kernel
theorem dX10_drawn_37 : decode cX10_drawn 37 = .ok (.iconst 4, 1) := by decide +kernel
theorem dX10_drawn_38 : decode cX10_drawn 38 = .ok (.istore_n 3, 1) := by decide +kernel
theorem dX10_drawn_39 : decode cX10_drawn 39 = .ok (.iload_n 1, 1) := by decide +kernel
theorem dX10_drawn_40 : decode cX10_drawn 40 = .ok (.bipush 6, 2) := by decide +kernel
theorem dX10_drawn_42 : decode cX10_drawn 42 = .ok (.if_icmp .ne 9, 3) := by decide +kernel
theorem dX10_drawn_45 : decode cX10_drawn 45 = .ok (.iload_n 2, 1) := by decide +kernel
theorem dX10_drawn_46 : decode cX10_drawn 46 = .ok (.iconst 4, 1) := by decide +kernel
theorem dX10_drawn_47 : decode cX10_drawn 47 = .ok (.irem, 1) := by decide +kernel
theorem dX10_drawn_48 : decode cX10_drawn 48 = .ok (.goto 7, 3) := by decide +kernel
theorem dX10_drawn_51 : decode cX10_drawn 51 = .ok (.iload_n 2, 1) := by decide +kernel
theorem dX10_drawn_52 : decode cX10_drawn 52 = .ok (.bipush 6, 2) := by decide +kernel
theorem dX10_drawn_54 : decode cX10_drawn 54 = .ok (.irem, 1) := by decide +kernel
theorem dX10_drawn_55 : decode cX10_drawn 55 = .ok (.istore 4, 2) := by decide +kernel
theorem dX10_drawn_57 : decode cX10_drawn 57 = .ok (.iload_n 1, 1) := by decide +kernel
theorem dX10_drawn_58 : decode cX10_drawn 58 = .ok (.bipush 6, 2) := by decide +kernel
theorem dX10_drawn_60 : decode cX10_drawn 60 = .ok (.if_icmp .ne 12, 3) := by decide +kernel
theorem dX10_drawn_63 : decode cX10_drawn 63 = .ok (.iload_n 2, 1) := by decide +kernel
theorem dX10_drawn_64 : decode cX10_drawn 64 = .ok (.iconst 4, 1) := by decide +kernel
theorem dX10_drawn_65 : decode cX10_drawn 65 = .ok (.idiv, 1) := by decide +kernel
theorem dX10_drawn_66 : decode cX10_drawn 66 = .ok (.bipush 6, 2) := by decide +kernel
theorem dX10_drawn_68 : decode cX10_drawn 68 = .ok (.irem, 1) := by decide +kernel
theorem dX10_drawn_69 : decode cX10_drawn 69 = .ok (.goto 10, 3) := by decide +kernel
theorem dX10_drawn_72 : decode cX10_drawn 72 = .ok (.iload_n 2, 1) := by decide +kernel
theorem dX10_drawn_73 : decode cX10_drawn 73 = .ok (.bipush 6, 2) := by decide +kernel
theorem dX10_drawn_75 : decode cX10_drawn 75 = .ok (.idiv, 1) := by decide +kernel
theorem dX10_drawn_76 : decode cX10_drawn 76 = .ok (.bipush 6, 2) := by decide +kernel
theorem dX10_drawn_78 : decode cX10_drawn 78 = .ok (.irem, 1) := by decide +kernel
theorem dX10_drawn_79 : decode cX10_drawn 79 = .ok (.istore 5, 2) := by decide +kernel
theorem dX10_drawn_81 : decode cX10_drawn 81 = .ok (.iload_n 1, 1) := by decide +kernel
theorem dX10_drawn_82 : decode cX10_drawn 82 = .ok (.bipush 6, 2) := by decide +kernel
theorem dX10_drawn_84 : decode cX10_drawn 84 = .ok (.if_icmp .ne 7, 3) := by decide +kernel
theorem dX10_drawn_87 : decode cX10_drawn 87 = .ok (.iconst 1, 1) := by decide +kernel
theorem dX10_drawn_88 : decode cX10_drawn 88 = .ok (.goto 12, 3) := by decide +kernel
theorem dX10_drawn_91 : decode cX10_drawn 91 = .ok (.iconst 1, 1) := by decide +kernel
theorem dX10_drawn_92 : decode cX10_drawn 92 = .ok (.iload_n 2, 1) := by decide +kernel
theorem dX10_drawn_93 : decode cX10_drawn 93 = .ok (.bipush 36, 2) := by decide +kernel
theorem dX10_drawn_95 : decode cX10_drawn 95 = .ok (.idiv, 1) := by decide +kernel
theorem dX10_drawn_96 : decode cX10_drawn 96 = .ok (.bipush 9, 2) := by decide +kernel
theorem dX10_drawn_98 : decode cX10_drawn 98 = .ok (.irem, 1) := by decide +kernel
theorem dX10_drawn_99 : decode cX10_drawn 99 = .ok (.iadd, 1) := by decide +kernel
theorem dX10_drawn_100 : decode cX10_drawn 100 = .ok (.istore 6, 2) := by decide +kernel
theorem dX10_drawn_102 : decode cX10_drawn 102 = .ok (.aload_n 0, 1) := by decide +kernel
theorem dX10_drawn_103 : decode cX10_drawn 103 = .ok (.iload_n 3, 1) := by decide +kernel
theorem dX10_drawn_104 : decode cX10_drawn 104 = .ok (.iload 4, 2) := by decide +kernel
theorem dX10_drawn_106 : decode cX10_drawn 106 = .ok (.iload 5, 2) := by decide +kernel
theorem dX10_drawn_108 : decode cX10_drawn 108 = .ok (.iload 6, 2) := by decide +kernel
theorem dX10_drawn_110 : decode cX10_drawn 110 = .ok (.invokevirtual 201, 3) := by decide +kernel
theorem dX10_drawn_113 : decode cX10_drawn 113 = .ok (.ifCond .ne 14, 3) := by decide +kernel
theorem dX10_drawn_116 : decode cX10_drawn 116 = .ok (.aload_n 0, 1) := by decide +kernel
theorem dX10_drawn_117 : decode cX10_drawn 117 = .ok (.iload_n 3, 1) := by decide +kernel
theorem dX10_drawn_118 : decode cX10_drawn 118 = .ok (.iload 4, 2) := by decide +kernel
theorem dX10_drawn_120 : decode cX10_drawn 120 = .ok (.iload 5, 2) := by decide +kernel
theorem dX10_drawn_122 : decode cX10_drawn 122 = .ok (.iload 6, 2) := by decide +kernel
theorem dX10_drawn_124 : decode cX10_drawn 124 = .ok (.invokevirtual 182, 3) := by decide +kernel
theorem dX10_drawn_127 : decode cX10_drawn 127 = .ok (.return_, 1) := by decide +kernel
set_option maxRecDepth 20000 in
theorem ggX10_year_X10_in : GoodIn wsX10_year wsX10_in := goodIn_r _ [11] (by decide +kernel) (by decide +kernel)
set_option maxRecDepth 20000 in
theorem gX10_year_X10_in : GoodIn wsX10_year (va_wsS RX10 79 yX10_in wsX10_in) := goodIn_app (goodIn_of _ (by decide +kernel)) ggX10_year_X10_in
set_option maxRecDepth 20000 in
theorem ggX10_year_X10_keepNow : GoodIn wsX10_year wsX10_keepNow := goodIn_r _ [15, 16, 17, 7, 18, 19, 20, 79, 80, 81, 82, 83, 84, 85, 86, 87, 88, 89, 90, 91, 92, 93, 94, 95, 96, 97, 98, 99, 100, 101, 102, 103, 104, 105, 106, 107, 108, 109, 110, 111, 112] (by decide +kernel) (by decide +kernel)
set_option maxRecDepth 20000 in
theorem gX10_year_X10_keepNow : GoodIn wsX10_year (wsV RX10 208 RX10 yX10_keepNow wsX10_keepNow) := goodIn_app (goodIn_of _ (by decide +kernel)) ggX10_year_X10_keepNow
set_option maxRecDepth 20000 in
theorem ggX10_year_X10_drawn : GoodIn wsX10_year wsX10_drawn := goodIn_r _ [24, 25, 26, 27, 10, 28, 19, 17, 7, 20, 29, 30, 31, 32, 33, 34, 35, 36, 18, 37, 38, 39, 40, 41, 42, 43, 44, 45, 46, 47, 48, 49, 50, 51, 52, 53, 54, 55, 56, 57, 58, 59, 60, 61, 62, 63, 79, 80, 81, 82, 83, 84, 85, 86, 87, 88, 89, 90, 91, 92, 93, 94, 95, 96, 97, 98, 99, 100, 101, 102, 103, 104, 105, 106, 107, 108, 109, 110, 111, 112] (by decide +kernel) (by decide +kernel)
set_option maxRecDepth 20000 in
theorem gX10_year_X10_drawn : GoodIn wsX10_year (wsV RX10 310 RX10 yX10_drawn wsX10_drawn) := goodIn_app (goodIn_of _ (by decide +kernel)) ggX10_year_X10_drawn
set_option maxRecDepth 20000 in
theorem ggX10_year_X10_peaPlace : GoodIn wsX10_year wsX10_peaPlace := goodIn_r _ [51, 19, 52, 53, 54, 10, 55, 17, 79, 80, 81, 82, 83, 84, 85, 86, 87, 88, 89, 90, 91, 92, 93, 94, 95, 96, 97, 98, 99, 100, 101, 102, 103, 104, 105, 106, 107, 108, 109, 110, 111, 112] (by decide +kernel) (by decide +kernel)
set_option maxRecDepth 20000 in
theorem gX10_year_X10_peaPlace : GoodIn wsX10_year (wsV RX10 156 RX10 yX10_peaPlace wsX10_peaPlace) := goodIn_app (goodIn_of _ (by decide +kernel)) ggX10_year_X10_peaPlace
set_option maxRecDepth 20000 in
theorem ggX10_year_X10_wrongOnes : GoodIn wsX10_year wsX10_wrongOnes := goodIn_r _ [67, 68, 69, 70, 10, 71, 18, 48, 49, 50, 51, 19, 52, 53, 54, 55, 17, 41, 42, 43, 79, 80, 81, 82, 83, 84, 85, 86, 87, 88, 89, 90, 91, 92, 93, 94, 95, 96, 97, 98, 99, 100, 101, 102, 103, 104, 105, 106, 107, 108, 109, 110, 111, 112] (by decide +kernel) (by decide +kernel)
set_option maxRecDepth 20000 in
theorem gX10_year_X10_wrongOnes : GoodIn wsX10_year (wsV RX10 179 RX10 yX10_wrongOnes wsX10_wrongOnes) := goodIn_app (goodIn_of _ (by decide +kernel)) ggX10_year_X10_wrongOnes
set_option maxRecDepth 20000 in
theorem ggX10_year_X10_ones : GoodIn wsX10_year wsX10_ones := goodIn_r _ [74] (by decide +kernel) (by decide +kernel)
set_option maxRecDepth 20000 in
theorem gX10_year_X10_ones : GoodIn wsX10_year (va_wsS RX10 268 yX10_ones wsX10_ones) := goodIn_app (goodIn_of _ (by decide +kernel)) ggX10_year_X10_ones
set_option maxRecDepth 20000 in
theorem ggX10_year_X10_back : GoodIn wsX10_year wsX10_back := goodIn_r _ [78, 17, 16, 7, 18, 19, 20, 79, 80, 81, 82, 83, 84, 85, 86, 87, 88, 89, 90, 91, 92, 93, 94, 95, 96, 97, 98, 99, 100, 101, 102, 103, 104, 105, 106, 107, 108, 109, 110, 111, 112] (by decide +kernel) (by decide +kernel)
set_option maxRecDepth 20000 in
theorem gX10_year_X10_back : GoodIn wsX10_year (wsV RX10 222 RX10 yX10_back wsX10_back) := goodIn_app (goodIn_of _ (by decide +kernel)) ggX10_year_X10_back
theorem dX10_year_0 : decode cX10_year 0 = .ok (.iload_n 1, 1) := by decide +kernel
theorem dX10_year_1 : decode cX10_year 1 = .ok (.i2l, 1) := by decide +kernel
theorem dX10_year_2 : decode cX10_year 2 = .ok (.lconst 0, 1) := by decide +kernel
theorem dX10_year_3 : decode cX10_year 3 = .ok (.ldc2_w 300, 3) := by decide +kernel
theorem dX10_year_6 : decode cX10_year 6 = .ok (.invokestatic 79, 3) := by decide +kernel
theorem dX10_year_9 : decode cX10_year 9 = .ok (.ifCond .eq 27, 3) := by decide +kernel
theorem dX10_year_12 : decode cX10_year 12 = .ok (.iload_n 2, 1) := by decide +kernel
theorem dX10_year_13 : decode cX10_year 13 = .ok (.i2l, 1) := by decide +kernel
theorem dX10_year_14 : decode cX10_year 14 = .ok (.lconst 1, 1) := by decide +kernel
theorem dX10_year_15 : decode cX10_year 15 = .ok (.ldc2_w 302, 3) := by decide +kernel
theorem dX10_year_18 : decode cX10_year 18 = .ok (.invokestatic 79, 3) := by decide +kernel
theorem dX10_year_21 : decode cX10_year 21 = .ok (.ifCond .eq 15, 3) := by decide +kernel
theorem dX10_year_24 : decode cX10_year 24 = .ok (.iload_n 3, 1) := by decide +kernel
theorem dX10_year_25 : decode cX10_year 25 = .ok (.i2l, 1) := by decide +kernel
theorem dX10_year_26 : decode cX10_year 26 = .ok (.lconst 0, 1) := by decide +kernel
theorem dX10_year_27 : decode cX10_year 27 = .ok (.ldc2_w 217, 3) := by decide +kernel
theorem dX10_year_30 : decode cX10_year 30 = .ok (.invokestatic 79, 3) := by decide +kernel
theorem dX10_year_33 : decode cX10_year 33 = .ok (.ifCond .ne 6, 3) := by decide +kernel
theorem dX10_year_36 : decode cX10_year 36 = .ok (.bipush (-2), 2) := by decide +kernel
theorem dX10_year_38 : decode cX10_year 38 = .ok (.ireturn, 1) := by decide +kernel
theorem dX10_year_39 : decode cX10_year 39 = .ok (.aload_n 0, 1) := by decide +kernel
theorem dX10_year_40 : decode cX10_year 40 = .ok (.invokevirtual 208, 3) := by decide +kernel
theorem dX10_year_43 : decode cX10_year 43 = .ok (.iload_n 1, 1) := by decide +kernel
theorem dX10_year_44 : decode cX10_year 44 = .ok (.istore 4, 2) := by decide +kernel
theorem dX10_year_46 : decode cX10_year 46 = .ok (.iconst 0, 1) := by decide +kernel
theorem dX10_year_47 : decode cX10_year 47 = .ok (.istore 5, 2) := by decide +kernel
theorem dX10_year_49 : decode cX10_year 49 = .ok (.iload 5, 2) := by decide +kernel
theorem dX10_year_51 : decode cX10_year 51 = .ok (.iload_n 2, 1) := by decide +kernel
theorem dX10_year_52 : decode cX10_year 52 = .ok (.if_icmp .ge 41, 3) := by decide +kernel
theorem dX10_year_55 : decode cX10_year 55 = .ok (.ldc2_w 304, 3) := by decide +kernel
theorem dX10_year_58 : decode cX10_year 58 = .ok (.iload 4, 2) := by decide +kernel
theorem dX10_year_60 : decode cX10_year 60 = .ok (.i2l, 1) := by decide +kernel
theorem dX10_year_61 : decode cX10_year 61 = .ok (.lmul, 1) := by decide +kernel
theorem dX10_year_62 : decode cX10_year 62 = .ok (.ldc2_w 306, 3) := by decide +kernel
theorem dX10_year_65 : decode cX10_year 65 = .ok (.ladd, 1) := by decide +kernel
theorem dX10_year_66 : decode cX10_year 66 = .ok (.ldc2_w 308, 3) := by decide +kernel
theorem dX10_year_69 : decode cX10_year 69 = .ok (.lrem, 1) := by decide +kernel
theorem dX10_year_70 : decode cX10_year 70 = .ok (.l2i, 1) := by decide +kernel
theorem dX10_year_71 : decode cX10_year 71 = .ok (.istore 4, 2) := by decide +kernel
theorem dX10_year_73 : decode cX10_year 73 = .ok (.aload_n 0, 1) := by decide +kernel
theorem dX10_year_74 : decode cX10_year 74 = .ok (.iload 4, 2) := by decide +kernel
theorem dX10_year_76 : decode cX10_year 76 = .ok (.bipush 8, 2) := by decide +kernel
theorem dX10_year_78 : decode cX10_year 78 = .ok (.irem, 1) := by decide +kernel
theorem dX10_year_79 : decode cX10_year 79 = .ok (.iload 4, 2) := by decide +kernel
theorem dX10_year_81 : decode cX10_year 81 = .ok (.bipush 8, 2) := by decide +kernel
theorem dX10_year_83 : decode cX10_year 83 = .ok (.idiv, 1) := by decide +kernel
theorem dX10_year_84 : decode cX10_year 84 = .ok (.invokevirtual 310, 3) := by decide +kernel
theorem dX10_year_87 : decode cX10_year 87 = .ok (.iinc 5 1, 3) := by decide +kernel
theorem dX10_year_90 : decode cX10_year 90 = .ok (.goto (-41), 3) := by decide +kernel
theorem dX10_year_93 : decode cX10_year 93 = .ok (.aload_n 0, 1) := by decide +kernel
theorem dX10_year_94 : decode cX10_year 94 = .ok (.iload_n 3, 1) := by decide +kernel
theorem dX10_year_95 : decode cX10_year 95 = .ok (.ifCond .ne 10, 3) := by decide +kernel
theorem dX10_year_98 : decode cX10_year 98 = .ok (.aload_n 0, 1) := by decide +kernel
theorem dX10_year_99 : decode cX10_year 99 = .ok (.invokevirtual 156, 3) := by decide +kernel
theorem dX10_year_102 : decode cX10_year 102 = .ok (.goto 24, 3) := by decide +kernel
theorem dX10_year_105 : decode cX10_year 105 = .ok (.iload_n 3, 1) := by decide +kernel
theorem dX10_year_106 : decode cX10_year 106 = .ok (.iconst 1, 1) := by decide +kernel
theorem dX10_year_107 : decode cX10_year 107 = .ok (.if_icmp .ne 13, 3) := by decide +kernel
theorem dX10_year_110 : decode cX10_year 110 = .ok (.aload_n 0, 1) := by decide +kernel
theorem dX10_year_111 : decode cX10_year 111 = .ok (.invokevirtual 179, 3) := by decide +kernel
theorem dX10_year_114 : decode cX10_year 114 = .ok (.invokestatic 268, 3) := by decide +kernel
theorem dX10_year_117 : decode cX10_year 117 = .ok (.goto 9, 3) := by decide +kernel
theorem dX10_year_120 : decode cX10_year 120 = .ok (.aload_n 0, 1) := by decide +kernel
theorem dX10_year_121 : decode cX10_year 121 = .ok (.getfield 16, 3) := by decide +kernel
theorem dX10_year_124 : decode cX10_year 124 = .ok (.iconst 0, 1) := by decide +kernel
theorem dX10_year_125 : decode cX10_year 125 = .ok (.iaload, 1) := by decide +kernel
theorem dX10_year_126 : decode cX10_year 126 = .ok (.invokevirtual 222, 3) := by decide +kernel
theorem dX10_year_129 : decode cX10_year 129 = .ok (.ireturn, 1) := by decide +kernel
theorem dX10_pass_0 : decode cX10_pass 0 = .ok (.aload_n 0, 1) := by decide +kernel
theorem dX10_pass_1 : decode cX10_pass 1 = .ok (.getfield 313, 3) := by decide +kernel
theorem dX10_pass_4 : decode cX10_pass 4 = .ok (.ifCond .eq 7, 3) := by decide +kernel
theorem dX10_pass_7 : decode cX10_pass 7 = .ok (.iload_n 1, 1) := by decide +kernel
theorem dX10_pass_8 : decode cX10_pass 8 = .ok (.goto 12, 3) := by decide +kernel
theorem dX10_pass_11 : decode cX10_pass 11 = .ok (.aload_n 0, 1) := by decide +kernel
theorem dX10_pass_12 : decode cX10_pass 12 = .ok (.getfield 71, 3) := by decide +kernel
theorem dX10_pass_15 : decode cX10_pass 15 = .ok (.aload_n 0, 1) := by decide +kernel
theorem dX10_pass_16 : decode cX10_pass 16 = .ok (.getfield 317, 3) := by decide +kernel
theorem dX10_pass_19 : decode cX10_pass 19 = .ok (.iaload, 1) := by decide +kernel
theorem dX10_pass_20 : decode cX10_pass 20 = .ok (.istore_n 2, 1) := by decide +kernel
theorem dX10_pass_21 : decode cX10_pass 21 = .ok (.aload_n 0, 1) := by decide +kernel
theorem dX10_pass_22 : decode cX10_pass 22 = .ok (.getfield 71, 3) := by decide +kernel
theorem dX10_pass_25 : decode cX10_pass 25 = .ok (.aload_n 0, 1) := by decide +kernel
theorem dX10_pass_26 : decode cX10_pass 26 = .ok (.getfield 317, 3) := by decide +kernel
theorem dX10_pass_29 : decode cX10_pass 29 = .ok (.iload_n 2, 1) := by decide +kernel
theorem dX10_pass_30 : decode cX10_pass 30 = .ok (.iastore, 1) := by decide +kernel
theorem dX10_pass_31 : decode cX10_pass 31 = .ok (.aload_n 0, 1) := by decide +kernel
theorem dX10_pass_32 : decode cX10_pass 32 = .ok (.dup, 1) := by decide +kernel
theorem dX10_pass_33 : decode cX10_pass 33 = .ok (.getfield 317, 3) := by decide +kernel
theorem dX10_pass_36 : decode cX10_pass 36 = .ok (.iconst 1, 1) := by decide +kernel
theorem dX10_pass_37 : decode cX10_pass 37 = .ok (.iadd, 1) := by decide +kernel
theorem dX10_pass_38 : decode cX10_pass 38 = .ok (.putfield 317, 3) := by decide +kernel
theorem dX10_pass_41 : decode cX10_pass 41 = .ok (.iload_n 2, 1) := by decide +kernel
theorem dX10_pass_42 : decode cX10_pass 42 = .ok (.ireturn, 1) := by decide +kernel
set_option maxRecDepth 20000 in
theorem ggX10_passRow_X10_pass : GoodIn wsX10_passRow wsX10_pass := goodIn_r _ [5, 6, 7, 8, 9, 10, 11, 12, 13, 14, 15, 16, 17, 18, 19, 20, 21, 22, 23, 24, 25, 26, 27, 28, 29, 30, 31, 32, 33, 34, 35, 36, 37, 38, 39, 40, 41, 42] (by decide +kernel) (by decide +kernel)
set_option maxRecDepth 20000 in
theorem gX10_passRow_X10_pass : GoodIn wsX10_passRow (wsV RX10 320 RX10 yX10_pass wsX10_pass) := goodIn_app (goodIn_of _ (by decide +kernel)) ggX10_passRow_X10_pass
theorem dX10_passRow_0 : decode cX10_passRow 0 = .ok (.iconst 0, 1) := by decide +kernel
theorem dX10_passRow_1 : decode cX10_passRow 1 = .ok (.istore_n 3, 1) := by decide +kernel
theorem dX10_passRow_2 : decode cX10_passRow 2 = .ok (.iload_n 3, 1) := by decide +kernel
theorem dX10_passRow_3 : decode cX10_passRow 3 = .ok (.iload_n 2, 1) := by decide +kernel
theorem dX10_passRow_4 : decode cX10_passRow 4 = .ok (.if_icmp .ge 19, 3) := by decide +kernel
theorem dX10_passRow_7 : decode cX10_passRow 7 = .ok (.aload_n 1, 1) := by decide +kernel
theorem dX10_passRow_8 : decode cX10_passRow 8 = .ok (.iload_n 3, 1) := by decide +kernel
theorem dX10_passRow_9 : decode cX10_passRow 9 = .ok (.aload_n 0, 1) := by decide +kernel
theorem dX10_passRow_10 : decode cX10_passRow 10 = .ok (.aload_n 1, 1) := by decide +kernel
theorem dX10_passRow_11 : decode cX10_passRow 11 = .ok (.iload_n 3, 1) := by decide +kernel
theorem dX10_passRow_12 : decode cX10_passRow 12 = .ok (.iaload, 1) := by decide +kernel
theorem dX10_passRow_13 : decode cX10_passRow 13 = .ok (.invokevirtual 320, 3) := by decide +kernel
theorem dX10_passRow_16 : decode cX10_passRow 16 = .ok (.iastore, 1) := by decide +kernel
theorem dX10_passRow_17 : decode cX10_passRow 17 = .ok (.iinc 3 1, 3) := by decide +kernel
theorem dX10_passRow_20 : decode cX10_passRow 20 = .ok (.goto (-18), 3) := by decide +kernel
theorem dX10_passRow_23 : decode cX10_passRow 23 = .ok (.return_, 1) := by decide +kernel
set_option maxRecDepth 20000 in
theorem ggX10_passAll_X10_pass : GoodIn wsX10_passAll wsX10_pass := goodIn_r _ [15, 16, 17, 18, 23, 24, 25, 26, 27, 28, 29, 30, 31, 32, 33, 34, 35, 36, 37, 38, 39, 40, 41, 42, 43, 44, 45, 46, 47, 48, 49, 50, 51, 52, 53, 54, 55, 56] (by decide +kernel) (by decide +kernel)
set_option maxRecDepth 20000 in
theorem gX10_passAll_X10_pass : GoodIn wsX10_passAll (wsV RX10 320 RX10 yX10_pass wsX10_pass) := goodIn_app (goodIn_of _ (by decide +kernel)) ggX10_passAll_X10_pass
set_option maxRecDepth 20000 in
theorem ggX10_passAll_X10_passRow : GoodIn wsX10_passAll wsX10_passRow := goodIn_r _ [22, 11, 12, 13, 14, 15, 16, 17, 18, 23, 24, 25, 26, 27, 28, 29, 30, 31, 32, 33, 34, 35, 36, 37, 38, 39, 40, 41, 42, 43, 44, 45, 46, 47, 48, 49, 50, 51, 52, 53, 54, 55, 56] (by decide +kernel) (by decide +kernel)
set_option maxRecDepth 20000 in
theorem gX10_passAll_X10_passRow : GoodIn wsX10_passAll (wsV RX10 323 RX10 yX10_passRow wsX10_passRow) := goodIn_app (goodIn_of _ (by decide +kernel)) ggX10_passAll_X10_passRow
theorem dX10_passAll_0 : decode cX10_passAll 0 = .ok (.aload_n 0, 1) := by decide +kernel
theorem dX10_passAll_1 : decode cX10_passAll 1 = .ok (.aload_n 0, 1) := by decide +kernel
theorem dX10_passAll_2 : decode cX10_passAll 2 = .ok (.aload_n 0, 1) := by decide +kernel
theorem dX10_passAll_3 : decode cX10_passAll 3 = .ok (.getfield 95, 3) := by decide +kernel
theorem dX10_passAll_6 : decode cX10_passAll 6 = .ok (.invokevirtual 320, 3) := by decide +kernel
theorem dX10_passAll_9 : decode cX10_passAll 9 = .ok (.putfield 95, 3) := by decide +kernel
theorem dX10_passAll_12 : decode cX10_passAll 12 = .ok (.aload_n 0, 1) := by decide +kernel
theorem dX10_passAll_13 : decode cX10_passAll 13 = .ok (.aload_n 0, 1) := by decide +kernel
theorem dX10_passAll_14 : decode cX10_passAll 14 = .ok (.aload_n 0, 1) := by decide +kernel
theorem dX10_passAll_15 : decode cX10_passAll 15 = .ok (.getfield 145, 3) := by decide +kernel
theorem dX10_passAll_18 : decode cX10_passAll 18 = .ok (.invokevirtual 320, 3) := by decide +kernel
theorem dX10_passAll_21 : decode cX10_passAll 21 = .ok (.putfield 145, 3) := by decide +kernel
theorem dX10_passAll_24 : decode cX10_passAll 24 = .ok (.aload_n 0, 1) := by decide +kernel
theorem dX10_passAll_25 : decode cX10_passAll 25 = .ok (.aload_n 0, 1) := by decide +kernel
theorem dX10_passAll_26 : decode cX10_passAll 26 = .ok (.aload_n 0, 1) := by decide +kernel
theorem dX10_passAll_27 : decode cX10_passAll 27 = .ok (.getfield 274, 3) := by decide +kernel
theorem dX10_passAll_30 : decode cX10_passAll 30 = .ok (.invokevirtual 320, 3) := by decide +kernel
theorem dX10_passAll_33 : decode cX10_passAll 33 = .ok (.putfield 274, 3) := by decide +kernel
theorem dX10_passAll_36 : decode cX10_passAll 36 = .ok (.aload_n 0, 1) := by decide +kernel
theorem dX10_passAll_37 : decode cX10_passAll 37 = .ok (.aload_n 0, 1) := by decide +kernel
theorem dX10_passAll_38 : decode cX10_passAll 38 = .ok (.getfield 7, 3) := by decide +kernel
theorem dX10_passAll_41 : decode cX10_passAll 41 = .ok (.bipush 6, 2) := by decide +kernel
theorem dX10_passAll_43 : decode cX10_passAll 43 = .ok (.invokevirtual 323, 3) := by decide +kernel
theorem dX10_passAll_46 : decode cX10_passAll 46 = .ok (.aload_n 0, 1) := by decide +kernel
theorem dX10_passAll_47 : decode cX10_passAll 47 = .ok (.aload_n 0, 1) := by decide +kernel
theorem dX10_passAll_48 : decode cX10_passAll 48 = .ok (.getfield 13, 3) := by decide +kernel
theorem dX10_passAll_51 : decode cX10_passAll 51 = .ok (.iconst 4, 1) := by decide +kernel
theorem dX10_passAll_52 : decode cX10_passAll 52 = .ok (.invokevirtual 323, 3) := by decide +kernel
theorem dX10_passAll_55 : decode cX10_passAll 55 = .ok (.aload_n 0, 1) := by decide +kernel
theorem dX10_passAll_56 : decode cX10_passAll 56 = .ok (.aload_n 0, 1) := by decide +kernel
theorem dX10_passAll_57 : decode cX10_passAll 57 = .ok (.getfield 16, 3) := by decide +kernel
theorem dX10_passAll_60 : decode cX10_passAll 60 = .ok (.iconst 4, 1) := by decide +kernel
theorem dX10_passAll_61 : decode cX10_passAll 61 = .ok (.invokevirtual 323, 3) := by decide +kernel
theorem dX10_passAll_64 : decode cX10_passAll 64 = .ok (.aload_n 0, 1) := by decide +kernel
theorem dX10_passAll_65 : decode cX10_passAll 65 = .ok (.aload_n 0, 1) := by decide +kernel
theorem dX10_passAll_66 : decode cX10_passAll 66 = .ok (.getfield 19, 3) := by decide +kernel
theorem dX10_passAll_69 : decode cX10_passAll 69 = .ok (.iconst 4, 1) := by decide +kernel
theorem dX10_passAll_70 : decode cX10_passAll 70 = .ok (.invokevirtual 323, 3) := by decide +kernel
theorem dX10_passAll_73 : decode cX10_passAll 73 = .ok (.aload_n 0, 1) := by decide +kernel
theorem dX10_passAll_74 : decode cX10_passAll 74 = .ok (.aload_n 0, 1) := by decide +kernel
theorem dX10_passAll_75 : decode cX10_passAll 75 = .ok (.getfield 22, 3) := by decide +kernel
theorem dX10_passAll_78 : decode cX10_passAll 78 = .ok (.bipush 8, 2) := by decide +kernel
theorem dX10_passAll_80 : decode cX10_passAll 80 = .ok (.invokevirtual 323, 3) := by decide +kernel
theorem dX10_passAll_83 : decode cX10_passAll 83 = .ok (.aload_n 0, 1) := by decide +kernel
theorem dX10_passAll_84 : decode cX10_passAll 84 = .ok (.aload_n 0, 1) := by decide +kernel
theorem dX10_passAll_85 : decode cX10_passAll 85 = .ok (.getfield 25, 3) := by decide +kernel
theorem dX10_passAll_88 : decode cX10_passAll 88 = .ok (.bipush 8, 2) := by decide +kernel
theorem dX10_passAll_90 : decode cX10_passAll 90 = .ok (.invokevirtual 323, 3) := by decide +kernel
theorem dX10_passAll_93 : decode cX10_passAll 93 = .ok (.aload_n 0, 1) := by decide +kernel
theorem dX10_passAll_94 : decode cX10_passAll 94 = .ok (.aload_n 0, 1) := by decide +kernel
theorem dX10_passAll_95 : decode cX10_passAll 95 = .ok (.getfield 28, 3) := by decide +kernel
theorem dX10_passAll_98 : decode cX10_passAll 98 = .ok (.bipush 8, 2) := by decide +kernel
theorem dX10_passAll_100 : decode cX10_passAll 100 = .ok (.invokevirtual 323, 3) := by decide +kernel
theorem dX10_passAll_103 : decode cX10_passAll 103 = .ok (.return_, 1) := by decide +kernel
set_option maxRecDepth 20000 in
theorem ggX10_image_X10_in : GoodIn wsX10_image wsX10_in := goodIn_r _ [7] (by decide +kernel) (by decide +kernel)
set_option maxRecDepth 20000 in
theorem gX10_image_X10_in : GoodIn wsX10_image (va_wsS RX10 79 yX10_in wsX10_in) := goodIn_app (goodIn_of _ (by decide +kernel)) ggX10_image_X10_in
set_option maxRecDepth 20000 in
theorem ggX10_image_X10_passAll : GoodIn wsX10_image wsX10_passAll := goodIn_r _ [11, 12, 13, 14, 15, 16, 17, 18, 19, 20, 21, 22, 23, 24, 6, 25, 2, 26, 1, 27, 28, 29, 30, 31, 32, 33, 34, 35, 36, 37, 38, 39, 40, 41, 42, 43, 44, 45, 46, 47, 48, 49, 50, 51, 52, 53, 54, 55, 56, 57, 58, 59, 60, 61, 62, 63, 64] (by decide +kernel) (by decide +kernel)
set_option maxRecDepth 20000 in
theorem gX10_image_X10_passAll : GoodIn wsX10_image (wsV RX10 327 RX10 yX10_passAll wsX10_passAll) := goodIn_app (goodIn_of _ (by decide +kernel)) ggX10_image_X10_passAll
theorem dX10_image_0 : decode cX10_image 0 = .ok (.iload_n 1, 1) := by decide +kernel
theorem dX10_image_1 : decode cX10_image 1 = .ok (.i2l, 1) := by decide +kernel
theorem dX10_image_2 : decode cX10_image 2 = .ok (.lconst 0, 1) := by decide +kernel
theorem dX10_image_3 : decode cX10_image 3 = .ok (.lconst 1, 1) := by decide +kernel
theorem dX10_image_4 : decode cX10_image 4 = .ok (.invokestatic 79, 3) := by decide +kernel
theorem dX10_image_7 : decode cX10_image 7 = .ok (.ifCond .ne 6, 3) := by decide +kernel
theorem dX10_image_10 : decode cX10_image 10 = .ok (.bipush (-2), 2) := by decide +kernel
theorem dX10_image_12 : decode cX10_image 12 = .ok (.ireturn, 1) := by decide +kernel
theorem dX10_image_13 : decode cX10_image 13 = .ok (.aload_n 0, 1) := by decide +kernel
theorem dX10_image_14 : decode cX10_image 14 = .ok (.bipush 50, 2) := by decide +kernel
theorem dX10_image_16 : decode cX10_image 16 = .ok (.iload_n 1, 1) := by decide +kernel
theorem dX10_image_17 : decode cX10_image 17 = .ok (.imul, 1) := by decide +kernel
theorem dX10_image_18 : decode cX10_image 18 = .ok (.putfield 317, 3) := by decide +kernel
theorem dX10_image_21 : decode cX10_image 21 = .ok (.aload_n 0, 1) := by decide +kernel
theorem dX10_image_22 : decode cX10_image 22 = .ok (.iconst 1, 1) := by decide +kernel
theorem dX10_image_23 : decode cX10_image 23 = .ok (.putfield 313, 3) := by decide +kernel
theorem dX10_image_26 : decode cX10_image 26 = .ok (.aload_n 0, 1) := by decide +kernel
theorem dX10_image_27 : decode cX10_image 27 = .ok (.invokevirtual 327, 3) := by decide +kernel
theorem dX10_image_30 : decode cX10_image 30 = .ok (.aload_n 0, 1) := by decide +kernel
theorem dX10_image_31 : decode cX10_image 31 = .ok (.getfield 74, 3) := by decide +kernel
theorem dX10_image_34 : decode cX10_image 34 = .ok (.iload_n 1, 1) := by decide +kernel
theorem dX10_image_35 : decode cX10_image 35 = .ok (.iconst 1, 1) := by decide +kernel
theorem dX10_image_36 : decode cX10_image 36 = .ok (.bastore, 1) := by decide +kernel
theorem dX10_image_37 : decode cX10_image 37 = .ok (.iconst 1, 1) := by decide +kernel
theorem dX10_image_38 : decode cX10_image 38 = .ok (.ireturn, 1) := by decide +kernel
set_option maxRecDepth 20000 in
theorem ggX10_restore_X10_in : GoodIn wsX10_restore wsX10_in := goodIn_r _ [7] (by decide +kernel) (by decide +kernel)
set_option maxRecDepth 20000 in
theorem gX10_restore_X10_in : GoodIn wsX10_restore (va_wsS RX10 79 yX10_in wsX10_in) := goodIn_app (goodIn_of _ (by decide +kernel)) ggX10_restore_X10_in
set_option maxRecDepth 20000 in
theorem ggX10_restore_X10_passAll : GoodIn wsX10_restore wsX10_passAll := goodIn_r _ [11, 12, 13, 14, 15, 16, 17, 18, 19, 20, 21, 22, 23, 24, 6, 25, 3, 26, 2, 27, 28, 29, 30, 31, 32, 33, 34, 35, 36, 37, 38, 39, 40, 41, 42, 43, 44, 45, 46, 47, 48, 49, 50, 51, 52, 53, 54, 55, 56, 57, 58, 59, 60, 61, 62, 63, 64] (by decide +kernel) (by decide +kernel)
set_option maxRecDepth 20000 in
theorem gX10_restore_X10_passAll : GoodIn wsX10_restore (wsV RX10 327 RX10 yX10_passAll wsX10_passAll) := goodIn_app (goodIn_of _ (by decide +kernel)) ggX10_restore_X10_passAll
theorem dX10_restore_0 : decode cX10_restore 0 = .ok (.iload_n 1, 1) := by decide +kernel
theorem dX10_restore_1 : decode cX10_restore 1 = .ok (.i2l, 1) := by decide +kernel
theorem dX10_restore_2 : decode cX10_restore 2 = .ok (.lconst 0, 1) := by decide +kernel
theorem dX10_restore_3 : decode cX10_restore 3 = .ok (.lconst 1, 1) := by decide +kernel
theorem dX10_restore_4 : decode cX10_restore 4 = .ok (.invokestatic 79, 3) := by decide +kernel
theorem dX10_restore_7 : decode cX10_restore 7 = .ok (.ifCond .ne 6, 3) := by decide +kernel
theorem dX10_restore_10 : decode cX10_restore 10 = .ok (.bipush (-2), 2) := by decide +kernel
theorem dX10_restore_12 : decode cX10_restore 12 = .ok (.ireturn, 1) := by decide +kernel
theorem dX10_restore_13 : decode cX10_restore 13 = .ok (.aload_n 0, 1) := by decide +kernel
theorem dX10_restore_14 : decode cX10_restore 14 = .ok (.getfield 74, 3) := by decide +kernel
theorem dX10_restore_17 : decode cX10_restore 17 = .ok (.iload_n 1, 1) := by decide +kernel
theorem dX10_restore_18 : decode cX10_restore 18 = .ok (.baload, 1) := by decide +kernel
theorem dX10_restore_19 : decode cX10_restore 19 = .ok (.ifCond .ne 6, 3) := by decide +kernel
theorem dX10_restore_22 : decode cX10_restore 22 = .ok (.bipush (-3), 2) := by decide +kernel
theorem dX10_restore_24 : decode cX10_restore 24 = .ok (.ireturn, 1) := by decide +kernel
theorem dX10_restore_25 : decode cX10_restore 25 = .ok (.aload_n 0, 1) := by decide +kernel
theorem dX10_restore_26 : decode cX10_restore 26 = .ok (.bipush 50, 2) := by decide +kernel
theorem dX10_restore_28 : decode cX10_restore 28 = .ok (.iload_n 1, 1) := by decide +kernel
theorem dX10_restore_29 : decode cX10_restore 29 = .ok (.imul, 1) := by decide +kernel
theorem dX10_restore_30 : decode cX10_restore 30 = .ok (.putfield 317, 3) := by decide +kernel
theorem dX10_restore_33 : decode cX10_restore 33 = .ok (.aload_n 0, 1) := by decide +kernel
theorem dX10_restore_34 : decode cX10_restore 34 = .ok (.iconst 0, 1) := by decide +kernel
theorem dX10_restore_35 : decode cX10_restore 35 = .ok (.putfield 313, 3) := by decide +kernel
theorem dX10_restore_38 : decode cX10_restore 38 = .ok (.aload_n 0, 1) := by decide +kernel
theorem dX10_restore_39 : decode cX10_restore 39 = .ok (.invokevirtual 327, 3) := by decide +kernel
theorem dX10_restore_42 : decode cX10_restore 42 = .ok (.iconst 1, 1) := by decide +kernel
theorem dX10_restore_43 : decode cX10_restore 43 = .ok (.ireturn, 1) := by decide +kernel
set_option maxRecDepth 20000 in
theorem ggX10_toldOfWatcher_X10_isWatcher : GoodIn wsX10_toldOfWatcher wsX10_isWatcher := goodIn_r _ [7, 8, 9, 10, 6, 11] (by decide +kernel) (by decide +kernel)
set_option maxRecDepth 20000 in
theorem gX10_toldOfWatcher_X10_isWatcher : GoodIn wsX10_toldOfWatcher (va_wsS RX10 99 yX10_isWatcher wsX10_isWatcher) := goodIn_app (goodIn_of _ (by decide +kernel)) ggX10_toldOfWatcher_X10_isWatcher
theorem dX10_toldOfWatcher_0 : decode cX10_toldOfWatcher 0 = .ok (.iload_n 1, 1) := by decide +kernel
theorem dX10_toldOfWatcher_1 : decode cX10_toldOfWatcher 1 = .ok (.bipush 10, 2) := by decide +kernel
theorem dX10_toldOfWatcher_3 : decode cX10_toldOfWatcher 3 = .ok (.irem, 1) := by decide +kernel
theorem dX10_toldOfWatcher_4 : decode cX10_toldOfWatcher 4 = .ok (.istore_n 2, 1) := by decide +kernel
theorem dX10_toldOfWatcher_5 : decode cX10_toldOfWatcher 5 = .ok (.iload_n 2, 1) := by decide +kernel
theorem dX10_toldOfWatcher_6 : decode cX10_toldOfWatcher 6 = .ok (.invokestatic 99, 3) := by decide +kernel
theorem dX10_toldOfWatcher_9 : decode cX10_toldOfWatcher 9 = .ok (.ifCond .ne 6, 3) := by decide +kernel
theorem dX10_toldOfWatcher_12 : decode cX10_toldOfWatcher 12 = .ok (.bipush (-2), 2) := by decide +kernel
theorem dX10_toldOfWatcher_14 : decode cX10_toldOfWatcher 14 = .ok (.ireturn, 1) := by decide +kernel
theorem dX10_toldOfWatcher_15 : decode cX10_toldOfWatcher 15 = .ok (.iload_n 1, 1) := by decide +kernel
theorem dX10_toldOfWatcher_16 : decode cX10_toldOfWatcher 16 = .ok (.bipush 20, 2) := by decide +kernel
theorem dX10_toldOfWatcher_18 : decode cX10_toldOfWatcher 18 = .ok (.if_icmp .ge 12, 3) := by decide +kernel
theorem dX10_toldOfWatcher_21 : decode cX10_toldOfWatcher 21 = .ok (.aload_n 0, 1) := by decide +kernel
theorem dX10_toldOfWatcher_22 : decode cX10_toldOfWatcher 22 = .ok (.getfield 13, 3) := by decide +kernel
theorem dX10_toldOfWatcher_25 : decode cX10_toldOfWatcher 25 = .ok (.iload_n 2, 1) := by decide +kernel
theorem dX10_toldOfWatcher_26 : decode cX10_toldOfWatcher 26 = .ok (.iaload, 1) := by decide +kernel
theorem dX10_toldOfWatcher_27 : decode cX10_toldOfWatcher 27 = .ok (.goto 24, 3) := by decide +kernel
theorem dX10_toldOfWatcher_30 : decode cX10_toldOfWatcher 30 = .ok (.iload_n 1, 1) := by decide +kernel
theorem dX10_toldOfWatcher_31 : decode cX10_toldOfWatcher 31 = .ok (.bipush 30, 2) := by decide +kernel
theorem dX10_toldOfWatcher_33 : decode cX10_toldOfWatcher 33 = .ok (.if_icmp .ge 12, 3) := by decide +kernel
theorem dX10_toldOfWatcher_36 : decode cX10_toldOfWatcher 36 = .ok (.aload_n 0, 1) := by decide +kernel
theorem dX10_toldOfWatcher_37 : decode cX10_toldOfWatcher 37 = .ok (.getfield 16, 3) := by decide +kernel
theorem dX10_toldOfWatcher_40 : decode cX10_toldOfWatcher 40 = .ok (.iload_n 2, 1) := by decide +kernel
theorem dX10_toldOfWatcher_41 : decode cX10_toldOfWatcher 41 = .ok (.iaload, 1) := by decide +kernel
theorem dX10_toldOfWatcher_42 : decode cX10_toldOfWatcher 42 = .ok (.goto 9, 3) := by decide +kernel
theorem dX10_toldOfWatcher_45 : decode cX10_toldOfWatcher 45 = .ok (.aload_n 0, 1) := by decide +kernel
theorem dX10_toldOfWatcher_46 : decode cX10_toldOfWatcher 46 = .ok (.getfield 19, 3) := by decide +kernel
theorem dX10_toldOfWatcher_49 : decode cX10_toldOfWatcher 49 = .ok (.iload_n 2, 1) := by decide +kernel
theorem dX10_toldOfWatcher_50 : decode cX10_toldOfWatcher 50 = .ok (.iaload, 1) := by decide +kernel
theorem dX10_toldOfWatcher_51 : decode cX10_toldOfWatcher 51 = .ok (.ireturn, 1) := by decide +kernel
set_option maxRecDepth 20000 in
theorem ggX10_told_X10_in : GoodIn wsX10_told wsX10_in := goodIn_r _ [10] (by decide +kernel) (by decide +kernel)
set_option maxRecDepth 20000 in
theorem gX10_told_X10_in : GoodIn wsX10_told (va_wsS RX10 79 yX10_in wsX10_in) := goodIn_app (goodIn_of _ (by decide +kernel)) ggX10_told_X10_in
set_option maxRecDepth 20000 in
theorem ggX10_told_X10_toldOfWatcher : GoodIn wsX10_told wsX10_toldOfWatcher := goodIn_r _ [14, 15, 16, 17, 18, 19, 9, 20, 21, 7, 8, 10, 27, 28, 29, 30, 31, 32, 33, 34, 35, 36, 37, 38, 39, 40, 41, 42, 43, 44, 45, 46, 47, 48, 49, 50, 51, 52, 53, 54, 55, 56, 57, 58, 59, 60] (by decide +kernel) (by decide +kernel)
set_option maxRecDepth 20000 in
theorem gX10_told_X10_toldOfWatcher : GoodIn wsX10_told (wsV RX10 332 RX10 yX10_toldOfWatcher wsX10_toldOfWatcher) := goodIn_app (goodIn_of _ (by decide +kernel)) ggX10_told_X10_toldOfWatcher
set_option maxRecDepth 20000 in
theorem ggX10_told_X10_rowNow : GoodIn wsX10_told wsX10_rowNow := goodIn_r _ [25, 26, 27, 28, 29, 30, 31, 32, 33, 34, 35, 36, 37, 38, 39, 40, 41, 42, 43, 44, 45, 46, 47, 48, 49, 50, 51, 52, 53, 54, 55, 56, 57, 58, 59, 60] (by decide +kernel) (by decide +kernel)
set_option maxRecDepth 20000 in
theorem gX10_told_X10_rowNow : GoodIn wsX10_told (wsV RX10 91 RX10 yX10_rowNow wsX10_rowNow) := goodIn_app (goodIn_of _ (by decide +kernel)) ggX10_told_X10_rowNow
theorem dX10_told_0 : decode cX10_told 0 = .ok (.iload_n 1, 1) := by decide +kernel
theorem dX10_told_1 : decode cX10_told 1 = .ok (.i2l, 1) := by decide +kernel
theorem dX10_told_2 : decode cX10_told 2 = .ok (.ldc2_w 290, 3) := by decide +kernel
theorem dX10_told_5 : decode cX10_told 5 = .ok (.ldc2_w 330, 3) := by decide +kernel
theorem dX10_told_8 : decode cX10_told 8 = .ok (.invokestatic 79, 3) := by decide +kernel
theorem dX10_told_11 : decode cX10_told 11 = .ok (.ifCond .eq 9, 3) := by decide +kernel
theorem dX10_told_14 : decode cX10_told 14 = .ok (.aload_n 0, 1) := by decide +kernel
theorem dX10_told_15 : decode cX10_told 15 = .ok (.iload_n 1, 1) := by decide +kernel
theorem dX10_told_16 : decode cX10_told 16 = .ok (.invokevirtual 332, 3) := by decide +kernel
theorem dX10_told_19 : decode cX10_told 19 = .ok (.ireturn, 1) := by decide +kernel
theorem dX10_told_20 : decode cX10_told 20 = .ok (.iload_n 1, 1) := by decide +kernel
theorem dX10_told_21 : decode cX10_told 21 = .ok (.tableswitch 60 0 4 #[35, 40, 45, 50, 55], 35) := by decide +kernel
theorem dX10_told_56 : decode cX10_told 56 = .ok (.aload_n 0, 1) := by decide +kernel
theorem dX10_told_57 : decode cX10_told 57 = .ok (.getfield 116, 3) := by decide +kernel
theorem dX10_told_60 : decode cX10_told 60 = .ok (.ireturn, 1) := by decide +kernel
theorem dX10_told_61 : decode cX10_told 61 = .ok (.aload_n 0, 1) := by decide +kernel
theorem dX10_told_62 : decode cX10_told 62 = .ok (.invokevirtual 91, 3) := by decide +kernel
theorem dX10_told_65 : decode cX10_told 65 = .ok (.ireturn, 1) := by decide +kernel
theorem dX10_told_66 : decode cX10_told 66 = .ok (.aload_n 0, 1) := by decide +kernel
theorem dX10_told_67 : decode cX10_told 67 = .ok (.getfield 95, 3) := by decide +kernel
theorem dX10_told_70 : decode cX10_told 70 = .ok (.ireturn, 1) := by decide +kernel
theorem dX10_told_71 : decode cX10_told 71 = .ok (.aload_n 0, 1) := by decide +kernel
theorem dX10_told_72 : decode cX10_told 72 = .ok (.getfield 145, 3) := by decide +kernel
theorem dX10_told_75 : decode cX10_told 75 = .ok (.ireturn, 1) := by decide +kernel
theorem dX10_told_76 : decode cX10_told 76 = .ok (.aload_n 0, 1) := by decide +kernel
theorem dX10_told_77 : decode cX10_told 77 = .ok (.getfield 274, 3) := by decide +kernel
theorem dX10_told_80 : decode cX10_told 80 = .ok (.ireturn, 1) := by decide +kernel
theorem dX10_told_81 : decode cX10_told 81 = .ok (.bipush (-2), 2) := by decide +kernel
theorem dX10_told_83 : decode cX10_told 83 = .ok (.ireturn, 1) := by decide +kernel
theorem dJ6_bitCount_0f7a4_0 : decode cJ6_bitCount_0f7a4 0 = .ok (.iload_n 0, 1) := by decide +kernel
theorem dJ6_bitCount_0f7a4_1 : decode cJ6_bitCount_0f7a4 1 = .ok (.iload_n 0, 1) := by decide +kernel
theorem dJ6_bitCount_0f7a4_2 : decode cJ6_bitCount_0f7a4 2 = .ok (.iconst 1, 1) := by decide +kernel
theorem dJ6_bitCount_0f7a4_3 : decode cJ6_bitCount_0f7a4 3 = .ok (.iushr, 1) := by decide +kernel
theorem dJ6_bitCount_0f7a4_4 : decode cJ6_bitCount_0f7a4 4 = .ok (.ldc_w 265, 3) := by decide +kernel
theorem dJ6_bitCount_0f7a4_7 : decode cJ6_bitCount_0f7a4 7 = .ok (.iand, 1) := by decide +kernel
theorem dJ6_bitCount_0f7a4_8 : decode cJ6_bitCount_0f7a4 8 = .ok (.isub, 1) := by decide +kernel
theorem dJ6_bitCount_0f7a4_9 : decode cJ6_bitCount_0f7a4 9 = .ok (.istore_n 0, 1) := by decide +kernel
theorem dJ6_bitCount_0f7a4_10 : decode cJ6_bitCount_0f7a4 10 = .ok (.iload_n 0, 1) := by decide +kernel
theorem dJ6_bitCount_0f7a4_11 : decode cJ6_bitCount_0f7a4 11 = .ok (.ldc_w 266, 3) := by decide +kernel
theorem dJ6_bitCount_0f7a4_14 : decode cJ6_bitCount_0f7a4 14 = .ok (.iand, 1) := by decide +kernel
theorem dJ6_bitCount_0f7a4_15 : decode cJ6_bitCount_0f7a4 15 = .ok (.iload_n 0, 1) := by decide +kernel
theorem dJ6_bitCount_0f7a4_16 : decode cJ6_bitCount_0f7a4 16 = .ok (.iconst 2, 1) := by decide +kernel
theorem dJ6_bitCount_0f7a4_17 : decode cJ6_bitCount_0f7a4 17 = .ok (.iushr, 1) := by decide +kernel
theorem dJ6_bitCount_0f7a4_18 : decode cJ6_bitCount_0f7a4 18 = .ok (.ldc_w 266, 3) := by decide +kernel
theorem dJ6_bitCount_0f7a4_21 : decode cJ6_bitCount_0f7a4 21 = .ok (.iand, 1) := by decide +kernel
theorem dJ6_bitCount_0f7a4_22 : decode cJ6_bitCount_0f7a4 22 = .ok (.iadd, 1) := by decide +kernel
theorem dJ6_bitCount_0f7a4_23 : decode cJ6_bitCount_0f7a4 23 = .ok (.istore_n 0, 1) := by decide +kernel
theorem dJ6_bitCount_0f7a4_24 : decode cJ6_bitCount_0f7a4 24 = .ok (.iload_n 0, 1) := by decide +kernel
theorem dJ6_bitCount_0f7a4_25 : decode cJ6_bitCount_0f7a4 25 = .ok (.iload_n 0, 1) := by decide +kernel
theorem dJ6_bitCount_0f7a4_26 : decode cJ6_bitCount_0f7a4 26 = .ok (.iconst 4, 1) := by decide +kernel
theorem dJ6_bitCount_0f7a4_27 : decode cJ6_bitCount_0f7a4 27 = .ok (.iushr, 1) := by decide +kernel
theorem dJ6_bitCount_0f7a4_28 : decode cJ6_bitCount_0f7a4 28 = .ok (.iadd, 1) := by decide +kernel
theorem dJ6_bitCount_0f7a4_29 : decode cJ6_bitCount_0f7a4 29 = .ok (.ldc_w 267, 3) := by decide +kernel
theorem dJ6_bitCount_0f7a4_32 : decode cJ6_bitCount_0f7a4 32 = .ok (.iand, 1) := by decide +kernel
theorem dJ6_bitCount_0f7a4_33 : decode cJ6_bitCount_0f7a4 33 = .ok (.istore_n 0, 1) := by decide +kernel
theorem dJ6_bitCount_0f7a4_34 : decode cJ6_bitCount_0f7a4 34 = .ok (.iload_n 0, 1) := by decide +kernel
theorem dJ6_bitCount_0f7a4_35 : decode cJ6_bitCount_0f7a4 35 = .ok (.iload_n 0, 1) := by decide +kernel
theorem dJ6_bitCount_0f7a4_36 : decode cJ6_bitCount_0f7a4 36 = .ok (.bipush 8, 2) := by decide +kernel
theorem dJ6_bitCount_0f7a4_38 : decode cJ6_bitCount_0f7a4 38 = .ok (.iushr, 1) := by decide +kernel
theorem dJ6_bitCount_0f7a4_39 : decode cJ6_bitCount_0f7a4 39 = .ok (.iadd, 1) := by decide +kernel
theorem dJ6_bitCount_0f7a4_40 : decode cJ6_bitCount_0f7a4 40 = .ok (.istore_n 0, 1) := by decide +kernel
theorem dJ6_bitCount_0f7a4_41 : decode cJ6_bitCount_0f7a4 41 = .ok (.iload_n 0, 1) := by decide +kernel
theorem dJ6_bitCount_0f7a4_42 : decode cJ6_bitCount_0f7a4 42 = .ok (.iload_n 0, 1) := by decide +kernel
theorem dJ6_bitCount_0f7a4_43 : decode cJ6_bitCount_0f7a4 43 = .ok (.bipush 16, 2) := by decide +kernel
theorem dJ6_bitCount_0f7a4_45 : decode cJ6_bitCount_0f7a4 45 = .ok (.iushr, 1) := by decide +kernel
theorem dJ6_bitCount_0f7a4_46 : decode cJ6_bitCount_0f7a4 46 = .ok (.iadd, 1) := by decide +kernel
theorem dJ6_bitCount_0f7a4_47 : decode cJ6_bitCount_0f7a4 47 = .ok (.istore_n 0, 1) := by decide +kernel
theorem dJ6_bitCount_0f7a4_48 : decode cJ6_bitCount_0f7a4 48 = .ok (.iload_n 0, 1) := by decide +kernel
theorem dJ6_bitCount_0f7a4_49 : decode cJ6_bitCount_0f7a4 49 = .ok (.bipush 63, 2) := by decide +kernel
theorem dJ6_bitCount_0f7a4_51 : decode cJ6_bitCount_0f7a4 51 = .ok (.iand, 1) := by decide +kernel
theorem dJ6_bitCount_0f7a4_52 : decode cJ6_bitCount_0f7a4 52 = .ok (.ireturn, 1) := by decide +kernel
theorem dJ9_max_7cf53_0 : decode cJ9_max_7cf53 0 = .ok (.iload_n 0, 1) := by decide +kernel
theorem dJ9_max_7cf53_1 : decode cJ9_max_7cf53 1 = .ok (.iload_n 1, 1) := by decide +kernel
theorem dJ9_max_7cf53_2 : decode cJ9_max_7cf53 2 = .ok (.if_icmp .lt 7, 3) := by decide +kernel
theorem dJ9_max_7cf53_5 : decode cJ9_max_7cf53 5 = .ok (.iload_n 0, 1) := by decide +kernel
theorem dJ9_max_7cf53_6 : decode cJ9_max_7cf53 6 = .ok (.goto 4, 3) := by decide +kernel
theorem dJ9_max_7cf53_9 : decode cJ9_max_7cf53 9 = .ok (.iload_n 1, 1) := by decide +kernel
theorem dJ9_max_7cf53_10 : decode cJ9_max_7cf53 10 = .ok (.ireturn, 1) := by decide +kernel
theorem dJ9_min_7cf53_0 : decode cJ9_min_7cf53 0 = .ok (.iload_n 0, 1) := by decide +kernel
theorem dJ9_min_7cf53_1 : decode cJ9_min_7cf53 1 = .ok (.iload_n 1, 1) := by decide +kernel
theorem dJ9_min_7cf53_2 : decode cJ9_min_7cf53 2 = .ok (.if_icmp .gt 7, 3) := by decide +kernel
theorem dJ9_min_7cf53_5 : decode cJ9_min_7cf53 5 = .ok (.iload_n 0, 1) := by decide +kernel
theorem dJ9_min_7cf53_6 : decode cJ9_min_7cf53 6 = .ok (.goto 4, 3) := by decide +kernel
theorem dJ9_min_7cf53_9 : decode cJ9_min_7cf53 9 = .ok (.iload_n 1, 1) := by decide +kernel
theorem dJ9_min_7cf53_10 : decode cJ9_min_7cf53 10 = .ok (.ireturn, 1) := by decide +kernel
theorem dJ7_fill_53178_0 : decode cJ7_fill_53178 0 = .ok (.iconst 0, 1) := by decide +kernel
theorem dJ7_fill_53178_1 : decode cJ7_fill_53178 1 = .ok (.istore_n 2, 1) := by decide +kernel
theorem dJ7_fill_53178_2 : decode cJ7_fill_53178 2 = .ok (.aload_n 0, 1) := by decide +kernel
theorem dJ7_fill_53178_3 : decode cJ7_fill_53178 3 = .ok (.arraylength, 1) := by decide +kernel
theorem dJ7_fill_53178_4 : decode cJ7_fill_53178 4 = .ok (.istore_n 3, 1) := by decide +kernel
theorem dJ7_fill_53178_5 : decode cJ7_fill_53178 5 = .ok (.iload_n 2, 1) := by decide +kernel
theorem dJ7_fill_53178_6 : decode cJ7_fill_53178 6 = .ok (.iload_n 3, 1) := by decide +kernel
theorem dJ7_fill_53178_7 : decode cJ7_fill_53178 7 = .ok (.if_icmp .ge 13, 3) := by decide +kernel
theorem dJ7_fill_53178_10 : decode cJ7_fill_53178 10 = .ok (.aload_n 0, 1) := by decide +kernel
theorem dJ7_fill_53178_11 : decode cJ7_fill_53178 11 = .ok (.iload_n 2, 1) := by decide +kernel
theorem dJ7_fill_53178_12 : decode cJ7_fill_53178 12 = .ok (.iload_n 1, 1) := by decide +kernel
theorem dJ7_fill_53178_13 : decode cJ7_fill_53178 13 = .ok (.iastore, 1) := by decide +kernel
theorem dJ7_fill_53178_14 : decode cJ7_fill_53178 14 = .ok (.iinc 2 1, 3) := by decide +kernel
theorem dJ7_fill_53178_17 : decode cJ7_fill_53178 17 = .ok (.goto (-12), 3) := by decide +kernel
theorem dJ7_fill_53178_20 : decode cJ7_fill_53178 20 = .ok (.return_, 1) := by decide +kernel
abbrev vwCl : List vw_C := [(RX0, TX0, 5), (RX1, TX1, 3), (RX3, TX3, 2), (RX4, TX4, 3), (RX5, TX5, 4), (RX6, TX6, 2), (RX7, TX7, 6), (RX8, TX8, 8), (RX9, TX9, 7), (RX10, TX10, 34)]

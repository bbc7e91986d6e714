theorem dX2_rankOf_34 : decode cX2_rankOf 34 = .ok (.invokestatic 20, 3) := by decide +kernel
theorem dX2_rankOf_37 : decode cX2_rankOf 37 = .ok (.iadd, 1) := by decide +kernel
theorem dX2_rankOf_38 : decode cX2_rankOf 38 = .ok (.istore_n 1, 1) := by decide +kernel
theorem dX2_rankOf_39 : decode cX2_rankOf 39 = .ok (.iload_n 2, 1) := by decide +kernel
theorem dX2_rankOf_40 : decode cX2_rankOf 40 = .ok (.iload 4, 2) := by decide +kernel
theorem dX2_rankOf_42 : decode cX2_rankOf 42 = .ok (.iconst (-1), 1) := by decide +kernel
theorem dX2_rankOf_43 : decode cX2_rankOf 43 = .ok (.ixor, 1) := by decide +kernel
theorem dX2_rankOf_44 : decode cX2_rankOf 44 = .ok (.iand, 1) := by decide +kernel
theorem dX2_rankOf_45 : decode cX2_rankOf 45 = .ok (.istore_n 2, 1) := by decide +kernel
theorem dX2_rankOf_46 : decode cX2_rankOf 46 = .ok (.iinc 3 1, 3) := by decide +kernel
theorem dX2_rankOf_49 : decode cX2_rankOf 49 = .ok (.goto (-42), 3) := by decide +kernel
theorem dX2_rankOf_52 : decode cX2_rankOf 52 = .ok (.iload_n 1, 1) := by decide +kernel
theorem dX2_rankOf_53 : decode cX2_rankOf 53 = .ok (.ireturn, 1) := by decide +kernel
set_option maxRecDepth 20000 in
theorem ggX2_ofRank_X2_lesserCupsLeft : GoodIn wsX2_ofRank wsX2_lesserCupsLeft := goodIn_r _ [4] (by decide +kernel) (by decide +kernel)
set_option maxRecDepth 20000 in
theorem gX2_ofRank_X2_lesserCupsLeft : GoodIn wsX2_ofRank (va_wsS RX2 26 yX2_lesserCupsLeft wsX2_lesserCupsLeft) := goodIn_app (goodIn_of _ (by decide +kernel)) ggX2_ofRank_X2_lesserCupsLeft
set_option maxRecDepth 20000 in
theorem ggX2_ofRank_X2_cupOn : GoodIn wsX2_ofRank wsX2_cupOn := goodIn_r _ [7] (by decide +kernel) (by decide +kernel)
set_option maxRecDepth 20000 in
theorem gX2_ofRank_X2_cupOn : GoodIn wsX2_ofRank (va_wsS RX2 16 yX2_cupOn wsX2_cupOn) := goodIn_app (goodIn_of _ (by decide +kernel)) ggX2_ofRank_X2_cupOn
set_option maxRecDepth 20000 in
theorem ggX2_ofRank_X2_nthCup : GoodIn wsX2_ofRank wsX2_nthCup := goodIn_r _ [10] (by decide +kernel) (by decide +kernel)
set_option maxRecDepth 20000 in
theorem gX2_ofRank_X2_nthCup : GoodIn wsX2_ofRank (va_wsS RX2 29 yX2_nthCup wsX2_nthCup) := goodIn_app (goodIn_of _ (by decide +kernel)) ggX2_ofRank_X2_nthCup
theorem dX2_ofRank_0 : decode cX2_ofRank 0 = .ok (.iconst 0, 1) := by decide +kernel
theorem dX2_ofRank_1 : decode cX2_ofRank 1 = .ok (.istore_n 1, 1) := by decide +kernel
theorem dX2_ofRank_2 : decode cX2_ofRank 2 = .ok (.bipush 63, 2) := by decide +kernel
theorem dX2_ofRank_4 : decode cX2_ofRank 4 = .ok (.istore_n 2, 1) := by decide +kernel
theorem dX2_ofRank_5 : decode cX2_ofRank 5 = .ok (.iload_n 0, 1) := by decide +kernel
theorem dX2_ofRank_6 : decode cX2_ofRank 6 = .ok (.invokestatic 26, 3) := by decide +kernel
theorem dX2_ofRank_9 : decode cX2_ofRank 9 = .ok (.istore_n 3, 1) := by decide +kernel
theorem dX2_ofRank_10 : decode cX2_ofRank 10 = .ok (.iconst 0, 1) := by decide +kernel
theorem dX2_ofRank_11 : decode cX2_ofRank 11 = .ok (.istore 4, 2) := by decide +kernel
theorem dX2_ofRank_13 : decode cX2_ofRank 13 = .ok (.iload 4, 2) := by decide +kernel
theorem dX2_ofRank_15 : decode cX2_ofRank 15 = .ok (.bipush 6, 2) := by decide +kernel
theorem dX2_ofRank_17 : decode cX2_ofRank 17 = .ok (.if_icmp .ge 40, 3) := by decide +kernel
theorem dX2_ofRank_20 : decode cX2_ofRank 20 = .ok (.iload_n 2, 1) := by decide +kernel
theorem dX2_ofRank_21 : decode cX2_ofRank 21 = .ok (.iload_n 3, 1) := by decide +kernel
theorem dX2_ofRank_22 : decode cX2_ofRank 22 = .ok (.iload 4, 2) := by decide +kernel
theorem dX2_ofRank_24 : decode cX2_ofRank 24 = .ok (.invokestatic 16, 3) := by decide +kernel
theorem dX2_ofRank_27 : decode cX2_ofRank 27 = .ok (.invokestatic 29, 3) := by decide +kernel
theorem dX2_ofRank_30 : decode cX2_ofRank 30 = .ok (.istore 5, 2) := by decide +kernel
theorem dX2_ofRank_32 : decode cX2_ofRank 32 = .ok (.iload_n 1, 1) := by decide +kernel
theorem dX2_ofRank_33 : decode cX2_ofRank 33 = .ok (.iload 5, 2) := by decide +kernel
theorem dX2_ofRank_35 : decode cX2_ofRank 35 = .ok (.iconst 3, 1) := by decide +kernel
theorem dX2_ofRank_36 : decode cX2_ofRank 36 = .ok (.iload 4, 2) := by decide +kernel
theorem dX2_ofRank_38 : decode cX2_ofRank 38 = .ok (.imul, 1) := by decide +kernel
theorem dX2_ofRank_39 : decode cX2_ofRank 39 = .ok (.ishl, 1) := by decide +kernel
theorem dX2_ofRank_40 : decode cX2_ofRank 40 = .ok (.ior, 1) := by decide +kernel
theorem dX2_ofRank_41 : decode cX2_ofRank 41 = .ok (.istore_n 1, 1) := by decide +kernel
theorem dX2_ofRank_42 : decode cX2_ofRank 42 = .ok (.iload_n 2, 1) := by decide +kernel
theorem dX2_ofRank_43 : decode cX2_ofRank 43 = .ok (.iconst 1, 1) := by decide +kernel
theorem dX2_ofRank_44 : decode cX2_ofRank 44 = .ok (.iload 5, 2) := by decide +kernel
theorem dX2_ofRank_46 : decode cX2_ofRank 46 = .ok (.ishl, 1) := by decide +kernel
theorem dX2_ofRank_47 : decode cX2_ofRank 47 = .ok (.iconst (-1), 1) := by decide +kernel
theorem dX2_ofRank_48 : decode cX2_ofRank 48 = .ok (.ixor, 1) := by decide +kernel
theorem dX2_ofRank_49 : decode cX2_ofRank 49 = .ok (.iand, 1) := by decide +kernel
theorem dX2_ofRank_50 : decode cX2_ofRank 50 = .ok (.istore_n 2, 1) := by decide +kernel
theorem dX2_ofRank_51 : decode cX2_ofRank 51 = .ok (.iinc 4 1, 3) := by decide +kernel
theorem dX2_ofRank_54 : decode cX2_ofRank 54 = .ok (.goto (-41), 3) := by decide +kernel
theorem dX2_ofRank_57 : decode cX2_ofRank 57 = .ok (.iload_n 1, 1) := by decide +kernel
theorem dX2_ofRank_58 : decode cX2_ofRank 58 = .ok (.ireturn, 1) := by decide +kernel
theorem dX2_lesserCupsLeft_0 : decode cX2_lesserCupsLeft 0 = .ok (.iconst 0, 1) := by decide +kernel
theorem dX2_lesserCupsLeft_1 : decode cX2_lesserCupsLeft 1 = .ok (.istore_n 1, 1) := by decide +kernel
theorem dX2_lesserCupsLeft_2 : decode cX2_lesserCupsLeft 2 = .ok (.iload_n 0, 1) := by decide +kernel
theorem dX2_lesserCupsLeft_3 : decode cX2_lesserCupsLeft 3 = .ok (.istore_n 2, 1) := by decide +kernel
theorem dX2_lesserCupsLeft_4 : decode cX2_lesserCupsLeft 4 = .ok (.iconst 5, 1) := by decide +kernel
theorem dX2_lesserCupsLeft_5 : decode cX2_lesserCupsLeft 5 = .ok (.istore_n 3, 1) := by decide +kernel
theorem dX2_lesserCupsLeft_6 : decode cX2_lesserCupsLeft 6 = .ok (.iload_n 3, 1) := by decide +kernel
theorem dX2_lesserCupsLeft_7 : decode cX2_lesserCupsLeft 7 = .ok (.ifCond .lt 31, 3) := by decide +kernel
theorem dX2_lesserCupsLeft_10 : decode cX2_lesserCupsLeft 10 = .ok (.bipush 6, 2) := by decide +kernel
theorem dX2_lesserCupsLeft_12 : decode cX2_lesserCupsLeft 12 = .ok (.iload_n 3, 1) := by decide +kernel
theorem dX2_lesserCupsLeft_13 : decode cX2_lesserCupsLeft 13 = .ok (.isub, 1) := by decide +kernel
theorem dX2_lesserCupsLeft_14 : decode cX2_lesserCupsLeft 14 = .ok (.istore 4, 2) := by decide +kernel
theorem dX2_lesserCupsLeft_16 : decode cX2_lesserCupsLeft 16 = .ok (.iload_n 1, 1) := by decide +kernel
theorem dX2_lesserCupsLeft_17 : decode cX2_lesserCupsLeft 17 = .ok (.iload_n 2, 1) := by decide +kernel
theorem dX2_lesserCupsLeft_18 : decode cX2_lesserCupsLeft 18 = .ok (.iload 4, 2) := by decide +kernel
theorem dX2_lesserCupsLeft_20 : decode cX2_lesserCupsLeft 20 = .ok (.irem, 1) := by decide +kernel
theorem dX2_lesserCupsLeft_21 : decode cX2_lesserCupsLeft 21 = .ok (.iconst 3, 1) := by decide +kernel
theorem dX2_lesserCupsLeft_22 : decode cX2_lesserCupsLeft 22 = .ok (.iload_n 3, 1) := by decide +kernel
theorem dX2_lesserCupsLeft_23 : decode cX2_lesserCupsLeft 23 = .ok (.imul, 1) := by decide +kernel
theorem dX2_lesserCupsLeft_24 : decode cX2_lesserCupsLeft 24 = .ok (.ishl, 1) := by decide +kernel
theorem dX2_lesserCupsLeft_25 : decode cX2_lesserCupsLeft 25 = .ok (.ior, 1) := by decide +kernel
theorem dX2_lesserCupsLeft_26 : decode cX2_lesserCupsLeft 26 = .ok (.istore_n 1, 1) := by decide +kernel
theorem dX2_lesserCupsLeft_27 : decode cX2_lesserCupsLeft 27 = .ok (.iload_n 2, 1) := by decide +kernel
theorem dX2_lesserCupsLeft_28 : decode cX2_lesserCupsLeft 28 = .ok (.iload 4, 2) := by decide +kernel
theorem dX2_lesserCupsLeft_30 : decode cX2_lesserCupsLeft 30 = .ok (.idiv, 1) := by decide +kernel
theorem dX2_lesserCupsLeft_31 : decode cX2_lesserCupsLeft 31 = .ok (.istore_n 2, 1) := by decide +kernel
theorem dX2_lesserCupsLeft_32 : decode cX2_lesserCupsLeft 32 = .ok (.iinc 3 (-1), 3) := by decide +kernel
theorem dX2_lesserCupsLeft_35 : decode cX2_lesserCupsLeft 35 = .ok (.goto (-29), 3) := by decide +kernel
theorem dX2_lesserCupsLeft_38 : decode cX2_lesserCupsLeft 38 = .ok (.iload_n 1, 1) := by decide +kernel
theorem dX2_lesserCupsLeft_39 : decode cX2_lesserCupsLeft 39 = .ok (.ireturn, 1) := by decide +kernel
theorem dX2_nthCup_0 : decode cX2_nthCup 0 = .ok (.iload_n 1, 1) := by decide +kernel
theorem dX2_nthCup_1 : decode cX2_nthCup 1 = .ok (.istore_n 2, 1) := by decide +kernel
theorem dX2_nthCup_2 : decode cX2_nthCup 2 = .ok (.iconst 0, 1) := by decide +kernel
theorem dX2_nthCup_3 : decode cX2_nthCup 3 = .ok (.istore_n 3, 1) := by decide +kernel
theorem dX2_nthCup_4 : decode cX2_nthCup 4 = .ok (.iload_n 3, 1) := by decide +kernel
theorem dX2_nthCup_5 : decode cX2_nthCup 5 = .ok (.bipush 6, 2) := by decide +kernel
theorem dX2_nthCup_7 : decode cX2_nthCup 7 = .ok (.if_icmp .ge 27, 3) := by decide +kernel
theorem dX2_nthCup_10 : decode cX2_nthCup 10 = .ok (.iload_n 0, 1) := by decide +kernel
theorem dX2_nthCup_11 : decode cX2_nthCup 11 = .ok (.iload_n 3, 1) := by decide +kernel
theorem dX2_nthCup_12 : decode cX2_nthCup 12 = .ok (.ishr, 1) := by decide +kernel
theorem dX2_nthCup_13 : decode cX2_nthCup 13 = .ok (.iconst 1, 1) := by decide +kernel
theorem dX2_nthCup_14 : decode cX2_nthCup 14 = .ok (.iand, 1) := by decide +kernel
theorem dX2_nthCup_15 : decode cX2_nthCup 15 = .ok (.iconst 1, 1) := by decide +kernel
theorem dX2_nthCup_16 : decode cX2_nthCup 16 = .ok (.if_icmp .ne 12, 3) := by decide +kernel
theorem dX2_nthCup_19 : decode cX2_nthCup 19 = .ok (.iload_n 2, 1) := by decide +kernel
theorem dX2_nthCup_20 : decode cX2_nthCup 20 = .ok (.ifCond .ne 5, 3) := by decide +kernel
theorem dX2_nthCup_23 : decode cX2_nthCup 23 = .ok (.iload_n 3, 1) := by decide +kernel
theorem dX2_nthCup_24 : decode cX2_nthCup 24 = .ok (.ireturn, 1) := by decide +kernel
theorem dX2_nthCup_25 : decode cX2_nthCup 25 = .ok (.iinc 2 (-1), 3) := by decide +kernel
theorem dX2_nthCup_28 : decode cX2_nthCup 28 = .ok (.iinc 3 1, 3) := by decide +kernel
theorem dX2_nthCup_31 : decode cX2_nthCup 31 = .ok (.goto (-27), 3) := by decide +kernel
theorem dX2_nthCup_34 : decode cX2_nthCup 34 = .ok (.iconst 0, 1) := by decide +kernel
theorem dX2_nthCup_35 : decode cX2_nthCup 35 = .ok (.ireturn, 1) := by decide +kernel
set_option maxRecDepth 20000 in
theorem ggX2_movesBetween_X2_cupOn : GoodIn wsX2_movesBetween wsX2_cupOn := goodIn_r _ [4] (by decide +kernel) (by decide +kernel)
set_option maxRecDepth 20000 in
theorem gX2_movesBetween_X2_cupOn : GoodIn wsX2_movesBetween (va_wsS RX2 16 yX2_cupOn wsX2_cupOn) := goodIn_app (goodIn_of _ (by decide +kernel)) ggX2_movesBetween_X2_cupOn
set_option maxRecDepth 20000 in
theorem ggX2_movesBetween_X2_placeOf : GoodIn wsX2_movesBetween wsX2_placeOf := goodIn_r _ [7] (by decide +kernel) (by decide +kernel)
set_option maxRecDepth 20000 in
theorem gX2_movesBetween_X2_placeOf : GoodIn wsX2_movesBetween (va_wsS RX2 32 yX2_placeOf wsX2_placeOf) := goodIn_app (goodIn_of _ (by decide +kernel)) ggX2_movesBetween_X2_placeOf
theorem dX2_movesBetween_0 : decode cX2_movesBetween 0 = .ok (.iconst 0, 1) := by decide +kernel
theorem dX2_movesBetween_1 : decode cX2_movesBetween 1 = .ok (.istore_n 2, 1) := by decide +kernel
theorem dX2_movesBetween_2 : decode cX2_movesBetween 2 = .ok (.iconst 0, 1) := by decide +kernel
theorem dX2_movesBetween_3 : decode cX2_movesBetween 3 = .ok (.istore_n 3, 1) := by decide +kernel
theorem dX2_movesBetween_4 : decode cX2_movesBetween 4 = .ok (.iload_n 3, 1) := by decide +kernel
theorem dX2_movesBetween_5 : decode cX2_movesBetween 5 = .ok (.bipush 6, 2) := by decide +kernel
theorem dX2_movesBetween_7 : decode cX2_movesBetween 7 = .ok (.if_icmp .ge 25, 3) := by decide +kernel
theorem dX2_movesBetween_10 : decode cX2_movesBetween 10 = .ok (.iload_n 2, 1) := by decide +kernel
theorem dX2_movesBetween_11 : decode cX2_movesBetween 11 = .ok (.iload_n 0, 1) := by decide +kernel
theorem dX2_movesBetween_12 : decode cX2_movesBetween 12 = .ok (.iload_n 1, 1) := by decide +kernel
theorem dX2_movesBetween_13 : decode cX2_movesBetween 13 = .ok (.iload_n 3, 1) := by decide +kernel
theorem dX2_movesBetween_14 : decode cX2_movesBetween 14 = .ok (.invokestatic 16, 3) := by decide +kernel
theorem dX2_movesBetween_17 : decode cX2_movesBetween 17 = .ok (.invokestatic 32, 3) := by decide +kernel
theorem dX2_movesBetween_20 : decode cX2_movesBetween 20 = .ok (.iconst 3, 1) := by decide +kernel
theorem dX2_movesBetween_21 : decode cX2_movesBetween 21 = .ok (.iload_n 3, 1) := by decide +kernel
theorem dX2_movesBetween_22 : decode cX2_movesBetween 22 = .ok (.imul, 1) := by decide +kernel
theorem dX2_movesBetween_23 : decode cX2_movesBetween 23 = .ok (.ishl, 1) := by decide +kernel
theorem dX2_movesBetween_24 : decode cX2_movesBetween 24 = .ok (.ior, 1) := by decide +kernel
theorem dX2_movesBetween_25 : decode cX2_movesBetween 25 = .ok (.istore_n 2, 1) := by decide +kernel
theorem dX2_movesBetween_26 : decode cX2_movesBetween 26 = .ok (.iinc 3 1, 3) := by decide +kernel
theorem dX2_movesBetween_29 : decode cX2_movesBetween 29 = .ok (.goto (-25), 3) := by decide +kernel
theorem dX2_movesBetween_32 : decode cX2_movesBetween 32 = .ok (.iload_n 2, 1) := by decide +kernel
theorem dX2_movesBetween_33 : decode cX2_movesBetween 33 = .ok (.ireturn, 1) := by decide +kernel
set_option maxRecDepth 20000 in
theorem ggX2_cyclesOf_X2_cupOn : GoodIn wsX2_cyclesOf wsX2_cupOn := goodIn_r _ [4] (by decide +kernel) (by decide +kernel)
set_option maxRecDepth 20000 in
theorem gX2_cyclesOf_X2_cupOn : GoodIn wsX2_cyclesOf (va_wsS RX2 16 yX2_cupOn wsX2_cupOn) := goodIn_app (goodIn_of _ (by decide +kernel)) ggX2_cyclesOf_X2_cupOn
theorem dX2_cyclesOf_0 : decode cX2_cyclesOf 0 = .ok (.iconst 0, 1) := by decide +kernel
theorem dX2_cyclesOf_1 : decode cX2_cyclesOf 1 = .ok (.istore_n 1, 1) := by decide +kernel
theorem dX2_cyclesOf_2 : decode cX2_cyclesOf 2 = .ok (.iconst 0, 1) := by decide +kernel
theorem dX2_cyclesOf_3 : decode cX2_cyclesOf 3 = .ok (.istore_n 2, 1) := by decide +kernel
theorem dX2_cyclesOf_4 : decode cX2_cyclesOf 4 = .ok (.iconst 0, 1) := by decide +kernel
theorem dX2_cyclesOf_5 : decode cX2_cyclesOf 5 = .ok (.istore_n 3, 1) := by decide +kernel
theorem dX2_cyclesOf_6 : decode cX2_cyclesOf 6 = .ok (.iload_n 3, 1) := by decide +kernel
theorem dX2_cyclesOf_7 : decode cX2_cyclesOf 7 = .ok (.bipush 6, 2) := by decide +kernel
theorem dX2_cyclesOf_9 : decode cX2_cyclesOf 9 = .ok (.if_icmp .ge 54, 3) := by decide +kernel
theorem dX2_cyclesOf_12 : decode cX2_cyclesOf 12 = .ok (.iload_n 2, 1) := by decide +kernel
theorem dX2_cyclesOf_13 : decode cX2_cyclesOf 13 = .ok (.iload_n 3, 1) := by decide +kernel
theorem dX2_cyclesOf_14 : decode cX2_cyclesOf 14 = .ok (.ishr, 1) := by decide +kernel
theorem dX2_cyclesOf_15 : decode cX2_cyclesOf 15 = .ok (.iconst 1, 1) := by decide +kernel
theorem dX2_cyclesOf_16 : decode cX2_cyclesOf 16 = .ok (.iand, 1) := by decide +kernel
theorem dX2_cyclesOf_17 : decode cX2_cyclesOf 17 = .ok (.ifCond .ne 6, 3) := by decide +kernel
theorem dX2_cyclesOf_20 : decode cX2_cyclesOf 20 = .ok (.iinc 1 1, 3) := by decide +kernel
theorem dX2_cyclesOf_23 : decode cX2_cyclesOf 23 = .ok (.iload_n 3, 1) := by decide +kernel
theorem dX2_cyclesOf_24 : decode cX2_cyclesOf 24 = .ok (.istore 4, 2) := by decide +kernel
theorem dX2_cyclesOf_26 : decode cX2_cyclesOf 26 = .ok (.iconst 0, 1) := by decide +kernel
theorem dX2_cyclesOf_27 : decode cX2_cyclesOf 27 = .ok (.istore 5, 2) := by decide +kernel
theorem dX2_cyclesOf_29 : decode cX2_cyclesOf 29 = .ok (.iload 5, 2) := by decide +kernel
theorem dX2_cyclesOf_31 : decode cX2_cyclesOf 31 = .ok (.bipush 6, 2) := by decide +kernel
theorem dX2_cyclesOf_33 : decode cX2_cyclesOf 33 = .ok (.if_icmp .ge 24, 3) := by decide +kernel
theorem dX2_cyclesOf_36 : decode cX2_cyclesOf 36 = .ok (.iload_n 2, 1) := by decide +kernel
theorem dX2_cyclesOf_37 : decode cX2_cyclesOf 37 = .ok (.iconst 1, 1) := by decide +kernel
theorem dX2_cyclesOf_38 : decode cX2_cyclesOf 38 = .ok (.iload 4, 2) := by decide +kernel
theorem dX2_cyclesOf_40 : decode cX2_cyclesOf 40 = .ok (.ishl, 1) := by decide +kernel
theorem dX2_cyclesOf_41 : decode cX2_cyclesOf 41 = .ok (.ior, 1) := by decide +kernel
theorem dX2_cyclesOf_42 : decode cX2_cyclesOf 42 = .ok (.istore_n 2, 1) := by decide +kernel
theorem dX2_cyclesOf_43 : decode cX2_cyclesOf 43 = .ok (.iload_n 0, 1) := by decide +kernel
theorem dX2_cyclesOf_44 : decode cX2_cyclesOf 44 = .ok (.iload 4, 2) := by decide +kernel
theorem dX2_cyclesOf_46 : decode cX2_cyclesOf 46 = .ok (.invokestatic 16, 3) := by decide +kernel
theorem dX2_cyclesOf_49 : decode cX2_cyclesOf 49 = .ok (.istore 4, 2) := by decide +kernel
theorem dX2_cyclesOf_51 : decode cX2_cyclesOf 51 = .ok (.iinc 5 1, 3) := by decide +kernel
theorem dX2_cyclesOf_54 : decode cX2_cyclesOf 54 = .ok (.goto (-25), 3) := by decide +kernel
theorem dX2_cyclesOf_57 : decode cX2_cyclesOf 57 = .ok (.iinc 3 1, 3) := by decide +kernel
theorem dX2_cyclesOf_60 : decode cX2_cyclesOf 60 = .ok (.goto (-54), 3) := by decide +kernel
theorem dX2_cyclesOf_63 : decode cX2_cyclesOf 63 = .ok (.iload_n 1, 1) := by decide +kernel
theorem dX2_cyclesOf_64 : decode cX2_cyclesOf 64 = .ok (.ireturn, 1) := by decide +kernel
set_option maxRecDepth 20000 in
theorem ggX2_inversionsOf_X2_cupOn : GoodIn wsX2_inversionsOf wsX2_cupOn := goodIn_r _ [4] (by decide +kernel) (by decide +kernel)
set_option maxRecDepth 20000 in
theorem gX2_inversionsOf_X2_cupOn : GoodIn wsX2_inversionsOf (va_wsS RX2 16 yX2_cupOn wsX2_cupOn) := goodIn_app (goodIn_of _ (by decide +kernel)) ggX2_inversionsOf_X2_cupOn
theorem dX2_inversionsOf_0 : decode cX2_inversionsOf 0 = .ok (.iconst 0, 1) := by decide +kernel
theorem dX2_inversionsOf_1 : decode cX2_inversionsOf 1 = .ok (.istore_n 1, 1) := by decide +kernel
theorem dX2_inversionsOf_2 : decode cX2_inversionsOf 2 = .ok (.iconst 0, 1) := by decide +kernel
theorem dX2_inversionsOf_3 : decode cX2_inversionsOf 3 = .ok (.istore_n 2, 1) := by decide +kernel
theorem dX2_inversionsOf_4 : decode cX2_inversionsOf 4 = .ok (.iload_n 2, 1) := by decide +kernel
theorem dX2_inversionsOf_5 : decode cX2_inversionsOf 5 = .ok (.bipush 6, 2) := by decide +kernel
theorem dX2_inversionsOf_7 : decode cX2_inversionsOf 7 = .ok (.if_icmp .ge 41, 3) := by decide +kernel
theorem dX2_inversionsOf_10 : decode cX2_inversionsOf 10 = .ok (.iload_n 2, 1) := by decide +kernel
theorem dX2_inversionsOf_11 : decode cX2_inversionsOf 11 = .ok (.iconst 1, 1) := by decide +kernel
theorem dX2_inversionsOf_12 : decode cX2_inversionsOf 12 = .ok (.iadd, 1) := by decide +kernel
theorem dX2_inversionsOf_13 : decode cX2_inversionsOf 13 = .ok (.istore_n 3, 1) := by decide +kernel
theorem dX2_inversionsOf_14 : decode cX2_inversionsOf 14 = .ok (.iload_n 3, 1) := by decide +kernel
theorem dX2_inversionsOf_15 : decode cX2_inversionsOf 15 = .ok (.bipush 6, 2) := by decide +kernel
theorem dX2_inversionsOf_17 : decode cX2_inversionsOf 17 = .ok (.if_icmp .ge 25, 3) := by decide +kernel
theorem dX2_inversionsOf_20 : decode cX2_inversionsOf 20 = .ok (.iload_n 0, 1) := by decide +kernel
theorem dX2_inversionsOf_21 : decode cX2_inversionsOf 21 = .ok (.iload_n 2, 1) := by decide +kernel
theorem dX2_inversionsOf_22 : decode cX2_inversionsOf 22 = .ok (.invokestatic 16, 3) := by decide +kernel
theorem dX2_inversionsOf_25 : decode cX2_inversionsOf 25 = .ok (.iload_n 0, 1) := by decide +kernel
theorem dX2_inversionsOf_26 : decode cX2_inversionsOf 26 = .ok (.iload_n 3, 1) := by decide +kernel
theorem dX2_inversionsOf_27 : decode cX2_inversionsOf 27 = .ok (.invokestatic 16, 3) := by decide +kernel
theorem dX2_inversionsOf_30 : decode cX2_inversionsOf 30 = .ok (.if_icmp .le 6, 3) := by decide +kernel
theorem dX2_inversionsOf_33 : decode cX2_inversionsOf 33 = .ok (.iinc 1 1, 3) := by decide +kernel
theorem dX2_inversionsOf_36 : decode cX2_inversionsOf 36 = .ok (.iinc 3 1, 3) := by decide +kernel
theorem dX2_inversionsOf_39 : decode cX2_inversionsOf 39 = .ok (.goto (-25), 3) := by decide +kernel
theorem dX2_inversionsOf_42 : decode cX2_inversionsOf 42 = .ok (.iinc 2 1, 3) := by decide +kernel
theorem dX2_inversionsOf_45 : decode cX2_inversionsOf 45 = .ok (.goto (-41), 3) := by decide +kernel
theorem dX2_inversionsOf_48 : decode cX2_inversionsOf 48 = .ok (.iload_n 1, 1) := by decide +kernel
theorem dX2_inversionsOf_49 : decode cX2_inversionsOf 49 = .ok (.ireturn, 1) := by decide +kernel
theorem dX3_init_0 : decode cX3_init 0 = .ok (.aload_n 0, 1) := by decide +kernel
theorem dX3_init_1 : decode cX3_init 1 = .ok (.invokespecial 3, 3) := by decide +kernel
theorem dX3_init_4 : decode cX3_init 4 = .ok (.aload_n 0, 1) := by decide +kernel
theorem dX3_init_5 : decode cX3_init 5 = .ok (.bipush 60, 2) := by decide +kernel
theorem dX3_init_7 : decode cX3_init 7 = .ok (.newarray .int, 2) := by decide +kernel
theorem dX3_init_9 : decode cX3_init 9 = .ok (.putfield 11, 3) := by decide +kernel
theorem dX3_init_12 : decode cX3_init 12 = .ok (.return_, 1) := by decide +kernel
theorem dX3_append_0 : decode cX3_append 0 = .ok (.aload_n 0, 1) := by decide +kernel
theorem dX3_append_1 : decode cX3_append 1 = .ok (.getfield 15, 3) := by decide +kernel
theorem dX3_append_4 : decode cX3_append 4 = .ok (.bipush 60, 2) := by decide +kernel
theorem dX3_append_6 : decode cX3_append 6 = .ok (.if_icmp .lt 5, 3) := by decide +kernel
theorem dX3_append_9 : decode cX3_append 9 = .ok (.iconst 0, 1) := by decide +kernel
theorem dX3_append_10 : decode cX3_append 10 = .ok (.ireturn, 1) := by decide +kernel
theorem dX3_append_11 : decode cX3_append 11 = .ok (.aload_n 0, 1) := by decide +kernel
theorem dX3_append_12 : decode cX3_append 12 = .ok (.getfield 11, 3) := by decide +kernel
theorem dX3_append_15 : decode cX3_append 15 = .ok (.aload_n 0, 1) := by decide +kernel
theorem dX3_append_16 : decode cX3_append 16 = .ok (.getfield 15, 3) := by decide +kernel
theorem dX3_append_19 : decode cX3_append 19 = .ok (.iload_n 1, 1) := by decide +kernel
theorem dX3_append_20 : decode cX3_append 20 = .ok (.iastore, 1) := by decide +kernel
theorem dX3_append_21 : decode cX3_append 21 = .ok (.aload_n 0, 1) := by decide +kernel
theorem dX3_append_22 : decode cX3_append 22 = .ok (.dup, 1) := by decide +kernel
theorem dX3_append_23 : decode cX3_append 23 = .ok (.getfield 15, 3) := by decide +kernel
theorem dX3_append_26 : decode cX3_append 26 = .ok (.iconst 1, 1) := by decide +kernel
theorem dX3_append_27 : decode cX3_append 27 = .ok (.iadd, 1) := by decide +kernel
theorem dX3_append_28 : decode cX3_append 28 = .ok (.putfield 15, 3) := by decide +kernel
theorem dX3_append_31 : decode cX3_append 31 = .ok (.iconst 1, 1) := by decide +kernel
theorem dX3_append_32 : decode cX3_append 32 = .ok (.ireturn, 1) := by decide +kernel
set_option maxRecDepth 20000 in
theorem ggX3_faultPlace_X3_lengthOf : GoodIn wsX3_faultPlace wsX3_lengthOf := goodIn_r _ [6, 7, 8, 5, 9] (by decide +kernel) (by decide +kernel)
set_option maxRecDepth 20000 in
theorem gX3_faultPlace_X3_lengthOf : GoodIn wsX3_faultPlace (va_wsS RX3 19 yX3_lengthOf wsX3_lengthOf) := goodIn_app (goodIn_of _ (by decide +kernel)) ggX3_faultPlace_X3_lengthOf
set_option maxRecDepth 20000 in
theorem ggX3_faultPlace_X3_isFitting : GoodIn wsX3_faultPlace wsX3_isFitting := goodIn_r _ [12, 13, 14, 15] (by decide +kernel) (by decide +kernel)
set_option maxRecDepth 20000 in
theorem gX3_faultPlace_X3_isFitting : GoodIn wsX3_faultPlace (va_wsS RX3 23 yX3_isFitting wsX3_isFitting) := goodIn_app (goodIn_of _ (by decide +kernel)) ggX3_faultPlace_X3_isFitting
theorem dX3_faultPlace_0 : decode cX3_faultPlace 0 = .ok (.iconst 0, 1) := by decide +kernel
theorem dX3_faultPlace_1 : decode cX3_faultPlace 1 = .ok (.istore_n 1, 1) := by decide +kernel
theorem dX3_faultPlace_2 : decode cX3_faultPlace 2 = .ok (.iconst 0, 1) := by decide +kernel
theorem dX3_faultPlace_3 : decode cX3_faultPlace 3 = .ok (.istore_n 2, 1) := by decide +kernel
theorem dX3_faultPlace_4 : decode cX3_faultPlace 4 = .ok (.iconst 0, 1) := by decide +kernel
theorem dX3_faultPlace_5 : decode cX3_faultPlace 5 = .ok (.istore_n 3, 1) := by decide +kernel
theorem dX3_faultPlace_6 : decode cX3_faultPlace 6 = .ok (.iload_n 3, 1) := by decide +kernel
theorem dX3_faultPlace_7 : decode cX3_faultPlace 7 = .ok (.aload_n 0, 1) := by decide +kernel
theorem dX3_faultPlace_8 : decode cX3_faultPlace 8 = .ok (.getfield 15, 3) := by decide +kernel
theorem dX3_faultPlace_11 : decode cX3_faultPlace 11 = .ok (.if_icmp .ge 74, 3) := by decide +kernel
theorem dX3_faultPlace_14 : decode cX3_faultPlace 14 = .ok (.iload_n 3, 1) := by decide +kernel
theorem dX3_faultPlace_15 : decode cX3_faultPlace 15 = .ok (.bipush 60, 2) := by decide +kernel
theorem dX3_faultPlace_17 : decode cX3_faultPlace 17 = .ok (.if_icmp .ge 68, 3) := by decide +kernel
theorem dX3_faultPlace_20 : decode cX3_faultPlace 20 = .ok (.aload_n 0, 1) := by decide +kernel
theorem dX3_faultPlace_21 : decode cX3_faultPlace 21 = .ok (.getfield 11, 3) := by decide +kernel
theorem dX3_faultPlace_24 : decode cX3_faultPlace 24 = .ok (.iload_n 3, 1) := by decide +kernel
theorem dX3_faultPlace_25 : decode cX3_faultPlace 25 = .ok (.iaload, 1) := by decide +kernel
theorem dX3_faultPlace_26 : decode cX3_faultPlace 26 = .ok (.istore 4, 2) := by decide +kernel
theorem dX3_faultPlace_28 : decode cX3_faultPlace 28 = .ok (.iload_n 2, 1) := by decide +kernel
theorem dX3_faultPlace_29 : decode cX3_faultPlace 29 = .ok (.ifCond .ne 6, 3) := by decide +kernel
theorem dX3_faultPlace_32 : decode cX3_faultPlace 32 = .ok (.iload 4, 2) := by decide +kernel
theorem dX3_faultPlace_34 : decode cX3_faultPlace 34 = .ok (.istore_n 1, 1) := by decide +kernel
theorem dX3_faultPlace_35 : decode cX3_faultPlace 35 = .ok (.iload_n 1, 1) := by decide +kernel
theorem dX3_faultPlace_36 : decode cX3_faultPlace 36 = .ok (.invokestatic 19, 3) := by decide +kernel
theorem dX3_faultPlace_39 : decode cX3_faultPlace 39 = .ok (.istore 5, 2) := by decide +kernel
theorem dX3_faultPlace_41 : decode cX3_faultPlace 41 = .ok (.iload 5, 2) := by decide +kernel
theorem dX3_faultPlace_43 : decode cX3_faultPlace 43 = .ok (.ifCond .eq 18, 3) := by decide +kernel
theorem dX3_faultPlace_46 : decode cX3_faultPlace 46 = .ok (.iload_n 2, 1) := by decide +kernel
theorem dX3_faultPlace_47 : decode cX3_faultPlace 47 = .ok (.ifCond .le 16, 3) := by decide +kernel
theorem dX3_faultPlace_50 : decode cX3_faultPlace 50 = .ok (.iload 4, 2) := by decide +kernel
theorem dX3_faultPlace_52 : decode cX3_faultPlace 52 = .ok (.iload_n 2, 1) := by decide +kernel
theorem dX3_faultPlace_53 : decode cX3_faultPlace 53 = .ok (.iload 5, 2) := by decide +kernel
theorem dX3_faultPlace_55 : decode cX3_faultPlace 55 = .ok (.invokestatic 23, 3) := by decide +kernel
theorem dX3_faultPlace_58 : decode cX3_faultPlace 58 = .ok (.ifCond .ne 5, 3) := by decide +kernel
theorem dX3_faultPlace_61 : decode cX3_faultPlace 61 = .ok (.iload_n 3, 1) := by decide +kernel
theorem dX3_faultPlace_62 : decode cX3_faultPlace 62 = .ok (.ireturn, 1) := by decide +kernel
theorem dX3_faultPlace_63 : decode cX3_faultPlace 63 = .ok (.iload_n 2, 1) := by decide +kernel
theorem dX3_faultPlace_64 : decode cX3_faultPlace 64 = .ok (.iconst 1, 1) := by decide +kernel
theorem dX3_faultPlace_65 : decode cX3_faultPlace 65 = .ok (.iadd, 1) := by decide +kernel
theorem dX3_faultPlace_66 : decode cX3_faultPlace 66 = .ok (.iload 5, 2) := by decide +kernel
theorem dX3_faultPlace_68 : decode cX3_faultPlace 68 = .ok (.if_icmp .ne 7, 3) := by decide +kernel
theorem dX3_faultPlace_71 : decode cX3_faultPlace 71 = .ok (.iconst 0, 1) := by decide +kernel
theorem dX3_faultPlace_72 : decode cX3_faultPlace 72 = .ok (.goto 6, 3) := by decide +kernel
theorem dX3_faultPlace_75 : decode cX3_faultPlace 75 = .ok (.iload_n 2, 1) := by decide +kernel
theorem dX3_faultPlace_76 : decode cX3_faultPlace 76 = .ok (.iconst 1, 1) := by decide +kernel
theorem dX3_faultPlace_77 : decode cX3_faultPlace 77 = .ok (.iadd, 1) := by decide +kernel
theorem dX3_faultPlace_78 : decode cX3_faultPlace 78 = .ok (.istore_n 2, 1) := by decide +kernel
theorem dX3_faultPlace_79 : decode cX3_faultPlace 79 = .ok (.iinc 3 1, 3) := by decide +kernel
theorem dX3_faultPlace_82 : decode cX3_faultPlace 82 = .ok (.goto (-76), 3) := by decide +kernel
theorem dX3_faultPlace_85 : decode cX3_faultPlace 85 = .ok (.iload_n 2, 1) := by decide +kernel
theorem dX3_faultPlace_86 : decode cX3_faultPlace 86 = .ok (.ifCond .ne 8, 3) := by decide +kernel
theorem dX3_faultPlace_89 : decode cX3_faultPlace 89 = .ok (.bipush (-6), 2) := by decide +kernel
theorem dX3_faultPlace_91 : decode cX3_faultPlace 91 = .ok (.goto 7, 3) := by decide +kernel
theorem dX3_faultPlace_94 : decode cX3_faultPlace 94 = .ok (.aload_n 0, 1) := by decide +kernel
theorem dX3_faultPlace_95 : decode cX3_faultPlace 95 = .ok (.getfield 15, 3) := by decide +kernel
theorem dX3_faultPlace_98 : decode cX3_faultPlace 98 = .ok (.ireturn, 1) := by decide +kernel
set_option maxRecDepth 20000 in
theorem ggX3_lengthOf_X3_isLetter : GoodIn wsX3_lengthOf wsX3_isLetter := goodIn_r _ [4] (by decide +kernel) (by decide +kernel)
set_option maxRecDepth 20000 in
theorem gX3_lengthOf_X3_isLetter : GoodIn wsX3_lengthOf (va_wsS RX3 27 yX3_isLetter wsX3_isLetter) := goodIn_app (goodIn_of _ (by decide +kernel)) ggX3_lengthOf_X3_isLetter
theorem dX3_lengthOf_0 : decode cX3_lengthOf 0 = .ok (.iload_n 0, 1) := by decide +kernel
theorem dX3_lengthOf_1 : decode cX3_lengthOf 1 = .ok (.lookupswitch 49 #[(46, 47), (104, 45), (108, 45), (115, 43)], 43) := by decide +kernel
theorem dX3_lengthOf_44 : decode cX3_lengthOf 44 = .ok (.iconst 4, 1) := by decide +kernel
theorem dX3_lengthOf_45 : decode cX3_lengthOf 45 = .ok (.ireturn, 1) := by decide +kernel
theorem dX3_lengthOf_46 : decode cX3_lengthOf 46 = .ok (.iconst 2, 1) := by decide +kernel
theorem dX3_lengthOf_47 : decode cX3_lengthOf 47 = .ok (.ireturn, 1) := by decide +kernel
theorem dX3_lengthOf_48 : decode cX3_lengthOf 48 = .ok (.iconst 1, 1) := by decide +kernel
theorem dX3_lengthOf_49 : decode cX3_lengthOf 49 = .ok (.ireturn, 1) := by decide +kernel
theorem dX3_lengthOf_50 : decode cX3_lengthOf 50 = .ok (.iload_n 0, 1) := by decide +kernel
theorem dX3_lengthOf_51 : decode cX3_lengthOf 51 = .ok (.invokestatic 27, 3) := by decide +kernel
theorem dX3_lengthOf_54 : decode cX3_lengthOf 54 = .ok (.ifCond .eq 7, 3) := by decide +kernel
theorem dX3_lengthOf_57 : decode cX3_lengthOf 57 = .ok (.iconst 3, 1) := by decide +kernel
theorem dX3_lengthOf_58 : decode cX3_lengthOf 58 = .ok (.goto 4, 3) := by decide +kernel
theorem dX3_lengthOf_61 : decode cX3_lengthOf 61 = .ok (.iconst 0, 1) := by decide +kernel
theorem dX3_lengthOf_62 : decode cX3_lengthOf 62 = .ok (.ireturn, 1) := by decide +kernel
theorem dX3_isLetter_0 : decode cX3_isLetter 0 = .ok (.iload_n 0, 1) := by decide +kernel
theorem dX3_isLetter_1 : decode cX3_isLetter 1 = .ok (.bipush 65, 2) := by decide +kernel
theorem dX3_isLetter_3 : decode cX3_isLetter 3 = .ok (.if_icmp .lt 13, 3) := by decide +kernel
theorem dX3_isLetter_6 : decode cX3_isLetter 6 = .ok (.iload_n 0, 1) := by decide +kernel
theorem dX3_isLetter_7 : decode cX3_isLetter 7 = .ok (.bipush 69, 2) := by decide +kernel
theorem dX3_isLetter_9 : decode cX3_isLetter 9 = .ok (.if_icmp .ge 7, 3) := by decide +kernel
theorem dX3_isLetter_12 : decode cX3_isLetter 12 = .ok (.iconst 1, 1) := by decide +kernel
theorem dX3_isLetter_13 : decode cX3_isLetter 13 = .ok (.goto 4, 3) := by decide +kernel
theorem dX3_isLetter_16 : decode cX3_isLetter 16 = .ok (.iconst 0, 1) := by decide +kernel
theorem dX3_isLetter_17 : decode cX3_isLetter 17 = .ok (.ireturn, 1) := by decide +kernel
set_option maxRecDepth 20000 in
theorem ggX3_isFitting_X9_isWithin : GoodIn wsX3_isFitting wsX9_isWithin := goodIn_r _ [3] (by decide +kernel) (by decide +kernel)
set_option maxRecDepth 20000 in
theorem gX3_isFitting_X9_isWithin_n31 : GoodIn wsX3_isFitting (wsX9_isWithin) := ggX3_isFitting_X9_isWithin
theorem dX3_isFitting_0 : decode cX3_isFitting 0 = .ok (.iload_n 2, 1) := by decide +kernel
theorem dX3_isFitting_1 : decode cX3_isFitting 1 = .ok (.iconst 2, 1) := by decide +kernel
theorem dX3_isFitting_2 : decode cX3_isFitting 2 = .ok (.if_icmp .le 14, 3) := by decide +kernel
theorem dX3_isFitting_5 : decode cX3_isFitting 5 = .ok (.iload_n 1, 1) := by decide +kernel
theorem dX3_isFitting_6 : decode cX3_isFitting 6 = .ok (.iload_n 2, 1) := by decide +kernel
theorem dX3_isFitting_7 : decode cX3_isFitting 7 = .ok (.iconst 1, 1) := by decide +kernel
theorem dX3_isFitting_8 : decode cX3_isFitting 8 = .ok (.isub, 1) := by decide +kernel
theorem dX3_isFitting_9 : decode cX3_isFitting 9 = .ok (.if_icmp .ne 7, 3) := by decide +kernel
theorem dX3_isFitting_12 : decode cX3_isFitting 12 = .ok (.iconst 1, 1) := by decide +kernel
theorem dX3_isFitting_13 : decode cX3_isFitting 13 = .ok (.goto 4, 3) := by decide +kernel
theorem dX3_isFitting_16 : decode cX3_isFitting 16 = .ok (.iconst 0, 1) := by decide +kernel
theorem dX3_isFitting_17 : decode cX3_isFitting 17 = .ok (.istore_n 3, 1) := by decide +kernel
theorem dX3_isFitting_18 : decode cX3_isFitting 18 = .ok (.iload_n 3, 1) := by decide +kernel
theorem dX3_isFitting_19 : decode cX3_isFitting 19 = .ok (.ifCond .eq 14, 3) := by decide +kernel
theorem dX3_isFitting_22 : decode cX3_isFitting 22 = .ok (.iload_n 0, 1) := by decide +kernel
theorem dX3_isFitting_23 : decode cX3_isFitting 23 = .ok (.bipush 49, 2) := by decide +kernel
theorem dX3_isFitting_25 : decode cX3_isFitting 25 = .ok (.bipush 57, 2) := by decide +kernel
theorem dX3_isFitting_27 : decode cX3_isFitting 27 = .ok (.invokestatic 31, 3) := by decide +kernel
theorem dX3_isFitting_30 : decode cX3_isFitting 30 = .ok (.goto 11, 3) := by decide +kernel
theorem dX3_isFitting_33 : decode cX3_isFitting 33 = .ok (.iload_n 0, 1) := by decide +kernel
theorem dX3_isFitting_34 : decode cX3_isFitting 34 = .ok (.bipush 48, 2) := by decide +kernel
theorem dX3_isFitting_36 : decode cX3_isFitting 36 = .ok (.bipush 53, 2) := by decide +kernel
theorem dX3_isFitting_38 : decode cX3_isFitting 38 = .ok (.invokestatic 31, 3) := by decide +kernel
theorem dX3_isFitting_41 : decode cX3_isFitting 41 = .ok (.ireturn, 1) := by decide +kernel
set_option maxRecDepth 20000 in
theorem ggX3_readAct_X3_signAt : GoodIn wsX3_readAct wsX3_signAt := goodIn_r _ [5, 6, 35, 36] (by decide +kernel) (by decide +kernel)
set_option maxRecDepth 20000 in
theorem gX3_readAct_X3_signAt : GoodIn wsX3_readAct (wsV RX3 34 RX3 yX3_signAt wsX3_signAt) := goodIn_app (goodIn_of _ (by decide +kernel)) ggX3_readAct_X3_signAt
set_option maxRecDepth 20000 in
theorem ggX3_readAct_X3_digitAt : GoodIn wsX3_readAct wsX3_digitAt := goodIn_r _ [10, 1, 2, 3, 4, 5, 6, 35, 36] (by decide +kernel) (by decide +kernel)
set_option maxRecDepth 20000 in
theorem gX3_readAct_X3_digitAt : GoodIn wsX3_readAct (wsV RX3 37 RX3 yX3_digitAt wsX3_digitAt) := goodIn_app (goodIn_of _ (by decide +kernel)) ggX3_readAct_X3_digitAt
set_option maxRecDepth 20000 in
theorem ggX3_readAct_X0_setChange : GoodIn wsX3_readAct wsX0_setChange := goodIn_r _ [15, 16, 17, 18, 19, 37, 38, 39, 40, 41] (by decide +kernel) (by decide +kernel)
set_option maxRecDepth 20000 in
theorem gX3_readAct_X0_setChange : GoodIn wsX3_readAct (wsV RX3 40 RX0 yX0_setChange wsX0_setChange) := goodIn_app (goodIn_of _ (by decide +kernel)) ggX3_readAct_X0_setChange
set_option maxRecDepth 20000 in
theorem ggX3_readAct_X0_setAt : GoodIn wsX3_readAct wsX0_setAt := goodIn_r _ [23, 16, 17, 37, 38, 39, 40, 41] (by decide +kernel) (by decide +kernel)
set_option maxRecDepth 20000 in
theorem gX3_readAct_X0_setAt : GoodIn wsX3_readAct (wsV RX3 46 RX0 yX0_setAt wsX0_setAt) := goodIn_app (goodIn_of _ (by decide +kernel)) ggX3_readAct_X0_setAt
set_option maxRecDepth 20000 in
theorem ggX3_readAct_X0_setBet : GoodIn wsX3_readAct wsX0_setBet := goodIn_r _ [27, 16, 28, 17, 19, 37, 38, 39, 40, 41] (by decide +kernel) (by decide +kernel)
set_option maxRecDepth 20000 in
theorem gX3_readAct_X0_setBet : GoodIn wsX3_readAct (wsV RX3 50 RX0 yX0_setBet wsX0_setBet) := goodIn_app (goodIn_of _ (by decide +kernel)) ggX3_readAct_X0_setBet
set_option maxRecDepth 20000 in
theorem ggX3_readAct_X3_lengthOf : GoodIn wsX3_readAct wsX3_lengthOf := goodIn_r _ [31, 32, 33, 4, 34] (by decide +kernel) (by decide +kernel)
set_option maxRecDepth 20000 in
theorem gX3_readAct_X3_lengthOf : GoodIn wsX3_readAct (va_wsS RX3 19 yX3_lengthOf wsX3_lengthOf) := goodIn_app (goodIn_of _ (by decide +kernel)) ggX3_readAct_X3_lengthOf
theorem dX3_readAct_0 : decode cX3_readAct 0 = .ok (.aload_n 0, 1) := by decide +kernel
theorem dX3_readAct_1 : decode cX3_readAct 1 = .ok (.iload_n 1, 1) := by decide +kernel
theorem dX3_readAct_2 : decode cX3_readAct 2 = .ok (.invokevirtual 34, 3) := by decide +kernel
theorem dX3_readAct_5 : decode cX3_readAct 5 = .ok (.istore_n 3, 1) := by decide +kernel
theorem dX3_readAct_6 : decode cX3_readAct 6 = .ok (.iload_n 3, 1) := by decide +kernel
theorem dX3_readAct_7 : decode cX3_readAct 7 = .ok (.lookupswitch 108 #[(46, 99), (104, 84), (108, 69), (115, 41)], 41) := by decide +kernel
theorem dX3_readAct_48 : decode cX3_readAct 48 = .ok (.aload_n 2, 1) := by decide +kernel
theorem dX3_readAct_49 : decode cX3_readAct 49 = .ok (.aload_n 0, 1) := by decide +kernel
theorem dX3_readAct_50 : decode cX3_readAct 50 = .ok (.iload_n 1, 1) := by decide +kernel
theorem dX3_readAct_51 : decode cX3_readAct 51 = .ok (.iconst 1, 1) := by decide +kernel
theorem dX3_readAct_52 : decode cX3_readAct 52 = .ok (.iadd, 1) := by decide +kernel
theorem dX3_readAct_53 : decode cX3_readAct 53 = .ok (.invokevirtual 37, 3) := by decide +kernel
theorem dX3_readAct_56 : decode cX3_readAct 56 = .ok (.aload_n 0, 1) := by decide +kernel
theorem dX3_readAct_57 : decode cX3_readAct 57 = .ok (.iload_n 1, 1) := by decide +kernel
theorem dX3_readAct_58 : decode cX3_readAct 58 = .ok (.iconst 2, 1) := by decide +kernel
theorem dX3_readAct_59 : decode cX3_readAct 59 = .ok (.iadd, 1) := by decide +kernel
theorem dX3_readAct_60 : decode cX3_readAct 60 = .ok (.invokevirtual 37, 3) := by decide +kernel
theorem dX3_readAct_63 : decode cX3_readAct 63 = .ok (.aload_n 0, 1) := by decide +kernel
theorem dX3_readAct_64 : decode cX3_readAct 64 = .ok (.iload_n 1, 1) := by decide +kernel
theorem dX3_readAct_65 : decode cX3_readAct 65 = .ok (.iconst 3, 1) := by decide +kernel
theorem dX3_readAct_66 : decode cX3_readAct 66 = .ok (.iadd, 1) := by decide +kernel
theorem dX3_readAct_67 : decode cX3_readAct 67 = .ok (.invokevirtual 37, 3) := by decide +kernel
theorem dX3_readAct_70 : decode cX3_readAct 70 = .ok (.invokevirtual 40, 3) := by decide +kernel
theorem dX3_readAct_73 : decode cX3_readAct 73 = .ok (.goto 64, 3) := by decide +kernel
theorem dX3_readAct_76 : decode cX3_readAct 76 = .ok (.aload_n 2, 1) := by decide +kernel
theorem dX3_readAct_77 : decode cX3_readAct 77 = .ok (.iconst 1, 1) := by decide +kernel
theorem dX3_readAct_78 : decode cX3_readAct 78 = .ok (.aload_n 0, 1) := by decide +kernel
theorem dX3_readAct_79 : decode cX3_readAct 79 = .ok (.iload_n 1, 1) := by decide +kernel
theorem dX3_readAct_80 : decode cX3_readAct 80 = .ok (.iconst 1, 1) := by decide +kernel
theorem dX3_readAct_81 : decode cX3_readAct 81 = .ok (.iadd, 1) := by decide +kernel
theorem dX3_readAct_82 : decode cX3_readAct 82 = .ok (.invokevirtual 37, 3) := by decide +kernel
theorem dX3_readAct_85 : decode cX3_readAct 85 = .ok (.invokevirtual 46, 3) := by decide +kernel
theorem dX3_readAct_88 : decode cX3_readAct 88 = .ok (.goto 49, 3) := by decide +kernel
theorem dX3_readAct_91 : decode cX3_readAct 91 = .ok (.aload_n 2, 1) := by decide +kernel
theorem dX3_readAct_92 : decode cX3_readAct 92 = .ok (.iconst 2, 1) := by decide +kernel
theorem dX3_readAct_93 : decode cX3_readAct 93 = .ok (.aload_n 0, 1) := by decide +kernel
theorem dX3_readAct_94 : decode cX3_readAct 94 = .ok (.iload_n 1, 1) := by decide +kernel
theorem dX3_readAct_95 : decode cX3_readAct 95 = .ok (.iconst 1, 1) := by decide +kernel
theorem dX3_readAct_96 : decode cX3_readAct 96 = .ok (.iadd, 1) := by decide +kernel
theorem dX3_readAct_97 : decode cX3_readAct 97 = .ok (.invokevirtual 37, 3) := by decide +kernel
theorem dX3_readAct_100 : decode cX3_readAct 100 = .ok (.invokevirtual 46, 3) := by decide +kernel
theorem dX3_readAct_103 : decode cX3_readAct 103 = .ok (.goto 34, 3) := by decide +kernel
theorem dX3_readAct_106 : decode cX3_readAct 106 = .ok (.aload_n 2, 1) := by decide +kernel
theorem dX3_readAct_107 : decode cX3_readAct 107 = .ok (.iconst 4, 1) := by decide +kernel
theorem dX3_readAct_108 : decode cX3_readAct 108 = .ok (.iconst 0, 1) := by decide +kernel
theorem dX3_readAct_109 : decode cX3_readAct 109 = .ok (.invokevirtual 46, 3) := by decide +kernel
theorem dX3_readAct_112 : decode cX3_readAct 112 = .ok (.goto 25, 3) := by decide +kernel
theorem dX3_readAct_115 : decode cX3_readAct 115 = .ok (.aload_n 2, 1) := by decide +kernel
theorem dX3_readAct_116 : decode cX3_readAct 116 = .ok (.iload_n 3, 1) := by decide +kernel
theorem dX3_readAct_117 : decode cX3_readAct 117 = .ok (.bipush 65, 2) := by decide +kernel
theorem dX3_readAct_119 : decode cX3_readAct 119 = .ok (.isub, 1) := by decide +kernel
theorem dX3_readAct_120 : decode cX3_readAct 120 = .ok (.aload_n 0, 1) := by decide +kernel
theorem dX3_readAct_121 : decode cX3_readAct 121 = .ok (.iload_n 1, 1) := by decide +kernel
theorem dX3_readAct_122 : decode cX3_readAct 122 = .ok (.iconst 1, 1) := by decide +kernel
theorem dX3_readAct_123 : decode cX3_readAct 123 = .ok (.iadd, 1) := by decide +kernel
theorem dX3_readAct_124 : decode cX3_readAct 124 = .ok (.invokevirtual 37, 3) := by decide +kernel
theorem dX3_readAct_127 : decode cX3_readAct 127 = .ok (.aload_n 0, 1) := by decide +kernel
theorem dX3_readAct_128 : decode cX3_readAct 128 = .ok (.iload_n 1, 1) := by decide +kernel
theorem dX3_readAct_129 : decode cX3_readAct 129 = .ok (.iconst 2, 1) := by decide +kernel
theorem dX3_readAct_130 : decode cX3_readAct 130 = .ok (.iadd, 1) := by decide +kernel
theorem dX3_readAct_131 : decode cX3_readAct 131 = .ok (.invokevirtual 37, 3) := by decide +kernel
theorem dX3_readAct_134 : decode cX3_readAct 134 = .ok (.invokevirtual 50, 3) := by decide +kernel
theorem dX3_readAct_137 : decode cX3_readAct 137 = .ok (.iload_n 3, 1) := by decide +kernel
theorem dX3_readAct_138 : decode cX3_readAct 138 = .ok (.invokestatic 19, 3) := by decide +kernel
theorem dX3_readAct_141 : decode cX3_readAct 141 = .ok (.ireturn, 1) := by decide +kernel
theorem dX3_signAt_0 : decode cX3_signAt 0 = .ok (.iload_n 1, 1) := by decide +kernel
theorem dX3_signAt_1 : decode cX3_signAt 1 = .ok (.ifCond .lt 18, 3) := by decide +kernel
theorem dX3_signAt_4 : decode cX3_signAt 4 = .ok (.iload_n 1, 1) := by decide +kernel
theorem dX3_signAt_5 : decode cX3_signAt 5 = .ok (.bipush 60, 2) := by decide +kernel
theorem dX3_signAt_7 : decode cX3_signAt 7 = .ok (.if_icmp .ge 12, 3) := by decide +kernel
theorem dX3_signAt_10 : decode cX3_signAt 10 = .ok (.aload_n 0, 1) := by decide +kernel
theorem dX3_signAt_11 : decode cX3_signAt 11 = .ok (.getfield 11, 3) := by decide +kernel
theorem dX3_signAt_14 : decode cX3_signAt 14 = .ok (.iload_n 1, 1) := by decide +kernel
theorem dX3_signAt_15 : decode cX3_signAt 15 = .ok (.iaload, 1) := by decide +kernel
theorem dX3_signAt_16 : decode cX3_signAt 16 = .ok (.goto 4, 3) := by decide +kernel
theorem dX3_signAt_19 : decode cX3_signAt 19 = .ok (.iconst 0, 1) := by decide +kernel
theorem dX3_signAt_20 : decode cX3_signAt 20 = .ok (.ireturn, 1) := by decide +kernel
set_option maxRecDepth 20000 in
theorem ggX3_digitAt_X3_signAt : GoodIn wsX3_digitAt wsX3_signAt := goodIn_r _ [5, 6, 7, 8] (by decide +kernel) (by decide +kernel)
set_option maxRecDepth 20000 in
theorem gX3_digitAt_X3_signAt : GoodIn wsX3_digitAt (wsV RX3 34 RX3 yX3_signAt wsX3_signAt) := goodIn_app (goodIn_of _ (by decide +kernel)) ggX3_digitAt_X3_signAt
theorem dX3_digitAt_0 : decode cX3_digitAt 0 = .ok (.aload_n 0, 1) := by decide +kernel
theorem dX3_digitAt_1 : decode cX3_digitAt 1 = .ok (.iload_n 1, 1) := by decide +kernel
theorem dX3_digitAt_2 : decode cX3_digitAt 2 = .ok (.invokevirtual 34, 3) := by decide +kernel
theorem dX3_digitAt_5 : decode cX3_digitAt 5 = .ok (.bipush 48, 2) := by decide +kernel
theorem dX3_digitAt_7 : decode cX3_digitAt 7 = .ok (.isub, 1) := by decide +kernel
theorem dX3_digitAt_8 : decode cX3_digitAt 8 = .ok (.ireturn, 1) := by decide +kernel
theorem dX4_init_0 : decode cX4_init 0 = .ok (.aload_n 0, 1) := by decide +kernel
theorem dX4_init_1 : decode cX4_init 1 = .ok (.invokespecial 3, 3) := by decide +kernel
theorem dX4_init_4 : decode cX4_init 4 = .ok (.aload_n 0, 1) := by decide +kernel
theorem dX4_init_5 : decode cX4_init 5 = .ok (.sipush 720, 3) := by decide +kernel
theorem dX4_init_8 : decode cX4_init 8 = .ok (.newarray .int, 2) := by decide +kernel
theorem dX4_init_10 : decode cX4_init 10 = .ok (.putfield 11, 3) := by decide +kernel
theorem dX4_init_13 : decode cX4_init 13 = .ok (.aload_n 0, 1) := by decide +kernel
theorem dX4_init_14 : decode cX4_init 14 = .ok (.sipush 720, 3) := by decide +kernel
theorem dX4_init_17 : decode cX4_init 17 = .ok (.newarray .int, 2) := by decide +kernel
theorem dX4_init_19 : decode cX4_init 19 = .ok (.putfield 17, 3) := by decide +kernel
theorem dX4_init_22 : decode cX4_init 22 = .ok (.return_, 1) := by decide +kernel
set_option maxRecDepth 20000 in
theorem ggX4_measure_J7_fill_53178 : GoodIn wsX4_measure wsJ7_fill_53178 := goodIn_r _ [7] (by decide +kernel) (by decide +kernel)
set_option maxRecDepth 20000 in
theorem gX4_measure_J7_fill_53178 : GoodIn wsX4_measure (va_wsS RX4 20 yJ7_fill_53178 wsJ7_fill_53178) := goodIn_app (goodIn_of _ (by decide +kernel)) ggX4_measure_J7_fill_53178
set_option maxRecDepth 20000 in
theorem ggX4_measure_X4_reach : GoodIn wsX4_measure wsX4_reach := goodIn_r _ [12, 1, 2, 3, 13, 14, 15, 16, 17, 18, 19, 20, 21, 22, 23, 24, 25, 26, 27, 28, 29, 43, 44, 45] (by decide +kernel) (by decide +kernel)
set_option maxRecDepth 20000 in
theorem gX4_measure_X4_reach : GoodIn wsX4_measure (wsV RX4 30 RX4 yX4_reach wsX4_reach) := goodIn_app (goodIn_of _ (by decide +kernel)) ggX4_measure_X4_reach
set_option maxRecDepth 20000 in
theorem ggX4_measure_X4_stepsFrom : GoodIn wsX4_measure wsX4_stepsFrom := goodIn_r _ [33, 1, 13, 14, 15, 16, 17, 18, 19, 20, 21, 22, 23, 24, 25, 26, 27, 28, 29, 43, 44, 45] (by decide +kernel) (by decide +kernel)
set_option maxRecDepth 20000 in
theorem gX4_measure_X4_stepsFrom : GoodIn wsX4_measure (wsV RX4 34 RX4 yX4_stepsFrom wsX4_stepsFrom) := goodIn_app (goodIn_of _ (by decide +kernel)) ggX4_measure_X4_stepsFrom
set_option maxRecDepth 20000 in
theorem ggX4_measure_X4_reachBeside : GoodIn wsX4_measure wsX4_reachBeside := goodIn_r _ [37, 38, 39, 30, 31, 32, 11, 33, 1, 13, 14, 15, 16, 17, 18, 19, 20, 21, 22, 23, 24, 25, 26, 27, 28, 29, 40, 41, 42, 8, 9, 10, 12, 2, 3, 43, 44, 45] (by decide +kernel) (by decide +kernel)
set_option maxRecDepth 20000 in
theorem gX4_measure_X4_reachBeside : GoodIn wsX4_measure (wsV RX4 38 RX4 yX4_reachBeside wsX4_reachBeside) := goodIn_app (goodIn_of _ (by decide +kernel)) ggX4_measure_X4_reachBeside
theorem dX4_measure_0 : decode cX4_measure 0 = .ok (.aload_n 0, 1) := by decide +kernel
theorem dX4_measure_1 : decode cX4_measure 1 = .ok (.getfield 11, 3) := by decide +kernel
theorem dX4_measure_4 : decode cX4_measure 4 = .ok (.bipush (-6), 2) := by decide +kernel
theorem dX4_measure_6 : decode cX4_measure 6 = .ok (.invokestatic 20, 3) := by decide +kernel
theorem dX4_measure_9 : decode cX4_measure 9 = .ok (.aload_n 0, 1) := by decide +kernel
theorem dX4_measure_10 : decode cX4_measure 10 = .ok (.iconst 0, 1) := by decide +kernel
theorem dX4_measure_11 : decode cX4_measure 11 = .ok (.putfield 26, 3) := by decide +kernel
theorem dX4_measure_14 : decode cX4_measure 14 = .ok (.aload_n 0, 1) := by decide +kernel
theorem dX4_measure_15 : decode cX4_measure 15 = .ok (.iload_n 2, 1) := by decide +kernel
theorem dX4_measure_16 : decode cX4_measure 16 = .ok (.iconst 0, 1) := by decide +kernel
theorem dX4_measure_17 : decode cX4_measure 17 = .ok (.invokevirtual 30, 3) := by decide +kernel
theorem dX4_measure_20 : decode cX4_measure 20 = .ok (.iconst 0, 1) := by decide +kernel
theorem dX4_measure_21 : decode cX4_measure 21 = .ok (.istore 4, 2) := by decide +kernel
theorem dX4_measure_23 : decode cX4_measure 23 = .ok (.iload 4, 2) := by decide +kernel
theorem dX4_measure_25 : decode cX4_measure 25 = .ok (.sipush 720, 3) := by decide +kernel
theorem dX4_measure_28 : decode cX4_measure 28 = .ok (.if_icmp .ge 40, 3) := by decide +kernel
theorem dX4_measure_31 : decode cX4_measure 31 = .ok (.iload 4, 2) := by decide +kernel
theorem dX4_measure_33 : decode cX4_measure 33 = .ok (.aload_n 0, 1) := by decide +kernel
theorem dX4_measure_34 : decode cX4_measure 34 = .ok (.getfield 26, 3) := by decide +kernel
theorem dX4_measure_37 : decode cX4_measure 37 = .ok (.if_icmp .ge 31, 3) := by decide +kernel
theorem dX4_measure_40 : decode cX4_measure 40 = .ok (.aload_n 0, 1) := by decide +kernel
theorem dX4_measure_41 : decode cX4_measure 41 = .ok (.iload_n 1, 1) := by decide +kernel
theorem dX4_measure_42 : decode cX4_measure 42 = .ok (.invokevirtual 34, 3) := by decide +kernel
theorem dX4_measure_45 : decode cX4_measure 45 = .ok (.bipush (-6), 2) := by decide +kernel
theorem dX4_measure_47 : decode cX4_measure 47 = .ok (.if_icmp .ne 21, 3) := by decide +kernel
theorem dX4_measure_50 : decode cX4_measure 50 = .ok (.aload_n 0, 1) := by decide +kernel
theorem dX4_measure_51 : decode cX4_measure 51 = .ok (.aload_n 0, 1) := by decide +kernel
theorem dX4_measure_52 : decode cX4_measure 52 = .ok (.getfield 17, 3) := by decide +kernel
theorem dX4_measure_55 : decode cX4_measure 55 = .ok (.iload 4, 2) := by decide +kernel
theorem dX4_measure_57 : decode cX4_measure 57 = .ok (.iaload, 1) := by decide +kernel
theorem dX4_measure_58 : decode cX4_measure 58 = .ok (.iload_n 3, 1) := by decide +kernel
theorem dX4_measure_59 : decode cX4_measure 59 = .ok (.invokevirtual 38, 3) := by decide +kernel
theorem dX4_measure_62 : decode cX4_measure 62 = .ok (.iinc 4 1, 3) := by decide +kernel
theorem dX4_measure_65 : decode cX4_measure 65 = .ok (.goto (-42), 3) := by decide +kernel
theorem dX4_measure_68 : decode cX4_measure 68 = .ok (.return_, 1) := by decide +kernel
set_option maxRecDepth 20000 in
theorem ggX4_reachBeside_X4_stepsFrom : GoodIn wsX4_reachBeside wsX4_stepsFrom := goodIn_r _ [7, 8, 9, 10, 11, 12, 13, 14, 15, 16, 17, 18, 19, 20, 21, 22, 23, 24, 25, 35, 36, 37] (by decide +kernel) (by decide +kernel)
set_option maxRecDepth 20000 in
theorem gX4_reachBeside_X4_stepsFrom : GoodIn wsX4_reachBeside (wsV RX4 34 RX4 yX4_stepsFrom wsX4_stepsFrom) := goodIn_app (goodIn_of _ (by decide +kernel)) ggX4_reachBeside_X4_stepsFrom
set_option maxRecDepth 20000 in
theorem ggX4_reachBeside_X2_changed : GoodIn wsX4_reachBeside wsX2_changed := goodIn_r _ [28] (by decide +kernel) (by decide +kernel)
set_option maxRecDepth 20000 in
theorem gX4_reachBeside_X2_changed : GoodIn wsX4_reachBeside (va_wsS RX4 47 yX2_changed wsX2_changed) := goodIn_app (goodIn_of _ (by decide +kernel)) ggX4_reachBeside_X2_changed
set_option maxRecDepth 20000 in
theorem ggX4_reachBeside_X4_reach : GoodIn wsX4_reachBeside wsX4_reach := goodIn_r _ [32, 8, 33, 34, 9, 10, 11, 12, 13, 14, 15, 16, 17, 18, 19, 20, 21, 22, 23, 24, 25, 35, 36, 37] (by decide +kernel) (by decide +kernel)
set_option maxRecDepth 20000 in
theorem gX4_reachBeside_X4_reach : GoodIn wsX4_reachBeside (wsV RX4 30 RX4 yX4_reach wsX4_reach) := goodIn_app (goodIn_of _ (by decide +kernel)) ggX4_reachBeside_X4_reach
theorem dX4_reachBeside_0 : decode cX4_reachBeside 0 = .ok (.aload_n 0, 1) := by decide +kernel
theorem dX4_reachBeside_1 : decode cX4_reachBeside 1 = .ok (.iload_n 1, 1) := by decide +kernel
theorem dX4_reachBeside_2 : decode cX4_reachBeside 2 = .ok (.invokevirtual 34, 3) := by decide +kernel
theorem dX4_reachBeside_5 : decode cX4_reachBeside 5 = .ok (.iconst 1, 1) := by decide +kernel
theorem dX4_reachBeside_6 : decode cX4_reachBeside 6 = .ok (.iadd, 1) := by decide +kernel
theorem dX4_reachBeside_7 : decode cX4_reachBeside 7 = .ok (.istore_n 3, 1) := by decide +kernel
theorem dX4_reachBeside_8 : decode cX4_reachBeside 8 = .ok (.iconst 0, 1) := by decide +kernel
theorem dX4_reachBeside_9 : decode cX4_reachBeside 9 = .ok (.istore 4, 2) := by decide +kernel
theorem dX4_reachBeside_11 : decode cX4_reachBeside 11 = .ok (.iload 4, 2) := by decide +kernel
theorem dX4_reachBeside_13 : decode cX4_reachBeside 13 = .ok (.bipush 15, 2) := by decide +kernel
theorem dX4_reachBeside_15 : decode cX4_reachBeside 15 = .ok (.if_icmp .ge 40, 3) := by decide +kernel
theorem dX4_reachBeside_18 : decode cX4_reachBeside 18 = .ok (.iload_n 2, 1) := by decide +kernel
theorem dX4_reachBeside_19 : decode cX4_reachBeside 19 = .ok (.iload 4, 2) := by decide +kernel
theorem dX4_reachBeside_21 : decode cX4_reachBeside 21 = .ok (.ishr, 1) := by decide +kernel
theorem dX4_reachBeside_22 : decode cX4_reachBeside 22 = .ok (.iconst 1, 1) := by decide +kernel
theorem dX4_reachBeside_23 : decode cX4_reachBeside 23 = .ok (.iand, 1) := by decide +kernel
theorem dX4_reachBeside_24 : decode cX4_reachBeside 24 = .ok (.iconst 1, 1) := by decide +kernel
theorem dX4_reachBeside_25 : decode cX4_reachBeside 25 = .ok (.if_icmp .ne 24, 3) := by decide +kernel
theorem dX4_reachBeside_28 : decode cX4_reachBeside 28 = .ok (.aload_n 0, 1) := by decide +kernel
theorem dX4_reachBeside_29 : decode cX4_reachBeside 29 = .ok (.iload_n 1, 1) := by decide +kernel
theorem dX4_reachBeside_30 : decode cX4_reachBeside 30 = .ok (.getstatic 41, 3) := by decide +kernel
theorem dX4_reachBeside_33 : decode cX4_reachBeside 33 = .ok (.iload 4, 2) := by decide +kernel
theorem dX4_reachBeside_35 : decode cX4_reachBeside 35 = .ok (.iaload, 1) := by decide +kernel
theorem dX4_reachBeside_36 : decode cX4_reachBeside 36 = .ok (.getstatic 44, 3) := by decide +kernel
theorem dX4_reachBeside_39 : decode cX4_reachBeside 39 = .ok (.iload 4, 2) := by decide +kernel
theorem dX4_reachBeside_41 : decode cX4_reachBeside 41 = .ok (.iaload, 1) := by decide +kernel
theorem dX4_reachBeside_42 : decode cX4_reachBeside 42 = .ok (.invokestatic 47, 3) := by decide +kernel
theorem dX4_reachBeside_45 : decode cX4_reachBeside 45 = .ok (.iload_n 3, 1) := by decide +kernel
theorem dX4_reachBeside_46 : decode cX4_reachBeside 46 = .ok (.invokevirtual 30, 3) := by decide +kernel
theorem dX4_reachBeside_49 : decode cX4_reachBeside 49 = .ok (.iinc 4 1, 3) := by decide +kernel
theorem dX4_reachBeside_52 : decode cX4_reachBeside 52 = .ok (.goto (-41), 3) := by decide +kernel
theorem dX4_reachBeside_55 : decode cX4_reachBeside 55 = .ok (.return_, 1) := by decide +kernel
set_option maxRecDepth 20000 in
theorem ggX4_reach_X2_rankOf : GoodIn wsX4_reach wsX2_rankOf := goodIn_r _ [7, 8, 9, 6, 10, 11, 12, 13, 14, 15, 16, 17] (by decide +kernel) (by decide +kernel)
set_option maxRecDepth 20000 in
theorem gX4_reach_X2_rankOf : GoodIn wsX4_reach (va_wsS RX4 51 yX2_rankOf wsX2_rankOf) := goodIn_app (goodIn_of _ (by decide +kernel)) ggX4_reach_X2_rankOf
set_option maxRecDepth 20000 in
theorem ggX4_reach_X9_isWithin : GoodIn wsX4_reach wsX9_isWithin := goodIn_r _ [20] (by decide +kernel) (by decide +kernel)
set_option maxRecDepth 20000 in
theorem gX4_reach_X9_isWithin_n54 : GoodIn wsX4_reach (wsX9_isWithin) := ggX4_reach_X9_isWithin
theorem dX4_reach_0 : decode cX4_reach 0 = .ok (.iload_n 1, 1) := by decide +kernel
theorem dX4_reach_1 : decode cX4_reach 1 = .ok (.invokestatic 51, 3) := by decide +kernel
theorem dX4_reach_4 : decode cX4_reach 4 = .ok (.istore_n 3, 1) := by decide +kernel
theorem dX4_reach_5 : decode cX4_reach 5 = .ok (.iload_n 3, 1) := by decide +kernel
theorem dX4_reach_6 : decode cX4_reach 6 = .ok (.iconst 0, 1) := by decide +kernel
theorem dX4_reach_7 : decode cX4_reach 7 = .ok (.sipush 719, 3) := by decide +kernel
theorem dX4_reach_10 : decode cX4_reach 10 = .ok (.invokestatic 54, 3) := by decide +kernel
theorem dX4_reach_13 : decode cX4_reach 13 = .ok (.ifCond .eq 51, 3) := by decide +kernel
theorem dX4_reach_16 : decode cX4_reach 16 = .ok (.aload_n 0, 1) := by decide +kernel
theorem dX4_reach_17 : decode cX4_reach 17 = .ok (.getfield 11, 3) := by decide +kernel
theorem dX4_reach_20 : decode cX4_reach 20 = .ok (.iload_n 3, 1) := by decide +kernel
theorem dX4_reach_21 : decode cX4_reach 21 = .ok (.iaload, 1) := by decide +kernel
theorem dX4_reach_22 : decode cX4_reach 22 = .ok (.bipush (-6), 2) := by decide +kernel
theorem dX4_reach_24 : decode cX4_reach 24 = .ok (.if_icmp .ne 40, 3) := by decide +kernel
theorem dX4_reach_27 : decode cX4_reach 27 = .ok (.aload_n 0, 1) := by decide +kernel
theorem dX4_reach_28 : decode cX4_reach 28 = .ok (.getfield 26, 3) := by decide +kernel
theorem dX4_reach_31 : decode cX4_reach 31 = .ok (.sipush 720, 3) := by decide +kernel
theorem dX4_reach_34 : decode cX4_reach 34 = .ok (.if_icmp .ge 30, 3) := by decide +kernel
theorem dX4_reach_37 : decode cX4_reach 37 = .ok (.aload_n 0, 1) := by decide +kernel
theorem dX4_reach_38 : decode cX4_reach 38 = .ok (.getfield 11, 3) := by decide +kernel
theorem dX4_reach_41 : decode cX4_reach 41 = .ok (.iload_n 3, 1) := by decide +kernel
theorem dX4_reach_42 : decode cX4_reach 42 = .ok (.iload_n 2, 1) := by decide +kernel
theorem dX4_reach_43 : decode cX4_reach 43 = .ok (.iastore, 1) := by decide +kernel
theorem dX4_reach_44 : decode cX4_reach 44 = .ok (.aload_n 0, 1) := by decide +kernel
theorem dX4_reach_45 : decode cX4_reach 45 = .ok (.getfield 17, 3) := by decide +kernel
theorem dX4_reach_48 : decode cX4_reach 48 = .ok (.aload_n 0, 1) := by decide +kernel
theorem dX4_reach_49 : decode cX4_reach 49 = .ok (.getfield 26, 3) := by decide +kernel
theorem dX4_reach_52 : decode cX4_reach 52 = .ok (.iload_n 1, 1) := by decide +kernel
theorem dX4_reach_53 : decode cX4_reach 53 = .ok (.iastore, 1) := by decide +kernel
theorem dX4_reach_54 : decode cX4_reach 54 = .ok (.aload_n 0, 1) := by decide +kernel
theorem dX4_reach_55 : decode cX4_reach 55 = .ok (.dup, 1) := by decide +kernel
theorem dX4_reach_56 : decode cX4_reach 56 = .ok (.getfield 26, 3) := by decide +kernel
theorem dX4_reach_59 : decode cX4_reach 59 = .ok (.iconst 1, 1) := by decide +kernel
theorem dX4_reach_60 : decode cX4_reach 60 = .ok (.iadd, 1) := by decide +kernel
theorem dX4_reach_61 : decode cX4_reach 61 = .ok (.putfield 26, 3) := by decide +kernel
theorem dX4_reach_64 : decode cX4_reach 64 = .ok (.return_, 1) := by decide +kernel
set_option maxRecDepth 20000 in
theorem ggX4_stepsFrom_X2_rankOf : GoodIn wsX4_stepsFrom wsX2_rankOf := goodIn_r _ [5, 6, 7, 4, 8, 9, 10, 11, 12, 13, 14, 15] (by decide +kernel) (by decide +kernel)
set_option maxRecDepth 20000 in
theorem gX4_stepsFrom_X2_rankOf : GoodIn wsX4_stepsFrom (va_wsS RX4 51 yX2_rankOf wsX2_rankOf) := goodIn_app (goodIn_of _ (by decide +kernel)) ggX4_stepsFrom_X2_rankOf
set_option maxRecDepth 20000 in
theorem ggX4_stepsFrom_X9_isWithin : GoodIn wsX4_stepsFrom wsX9_isWithin := goodIn_r _ [18] (by decide +kernel) (by decide +kernel)
set_option maxRecDepth 20000 in
theorem gX4_stepsFrom_X9_isWithin_n54 : GoodIn wsX4_stepsFrom (wsX9_isWithin) := ggX4_stepsFrom_X9_isWithin
theorem dX4_stepsFrom_0 : decode cX4_stepsFrom 0 = .ok (.iload_n 1, 1) := by decide +kernel
theorem dX4_stepsFrom_1 : decode cX4_stepsFrom 1 = .ok (.invokestatic 51, 3) := by decide +kernel
theorem dX4_stepsFrom_4 : decode cX4_stepsFrom 4 = .ok (.istore_n 2, 1) := by decide +kernel
theorem dX4_stepsFrom_5 : decode cX4_stepsFrom 5 = .ok (.iload_n 2, 1) := by decide +kernel
theorem dX4_stepsFrom_6 : decode cX4_stepsFrom 6 = .ok (.iconst 0, 1) := by decide +kernel
theorem dX4_stepsFrom_7 : decode cX4_stepsFrom 7 = .ok (.sipush 719, 3) := by decide +kernel
theorem dX4_stepsFrom_10 : decode cX4_stepsFrom 10 = .ok (.invokestatic 54, 3) := by decide +kernel
theorem dX4_stepsFrom_13 : decode cX4_stepsFrom 13 = .ok (.ifCond .eq 12, 3) := by decide +kernel
theorem dX4_stepsFrom_16 : decode cX4_stepsFrom 16 = .ok (.aload_n 0, 1) := by decide +kernel
theorem dX4_stepsFrom_17 : decode cX4_stepsFrom 17 = .ok (.getfield 11, 3) := by decide +kernel
theorem dX4_stepsFrom_20 : decode cX4_stepsFrom 20 = .ok (.iload_n 2, 1) := by decide +kernel
theorem dX4_stepsFrom_21 : decode cX4_stepsFrom 21 = .ok (.iaload, 1) := by decide +kernel
theorem dX4_stepsFrom_22 : decode cX4_stepsFrom 22 = .ok (.goto 5, 3) := by decide +kernel
theorem dX4_stepsFrom_25 : decode cX4_stepsFrom 25 = .ok (.bipush (-6), 2) := by decide +kernel
theorem dX4_stepsFrom_27 : decode cX4_stepsFrom 27 = .ok (.ireturn, 1) := by decide +kernel
set_option maxRecDepth 20000 in
theorem ggX4_pairFrom_X4_stepsFrom : GoodIn wsX4_pairFrom wsX4_stepsFrom := goodIn_r _ [7, 8, 9, 10, 11, 12, 13, 14, 15, 16, 17, 18, 19, 20, 21, 22, 23, 24, 25, 29, 30, 31] (by decide +kernel) (by decide +kernel)
set_option maxRecDepth 20000 in
theorem gX4_pairFrom_X4_stepsFrom : GoodIn wsX4_pairFrom (wsV RX4 34 RX4 yX4_stepsFrom wsX4_stepsFrom) := goodIn_app (goodIn_of _ (by decide +kernel)) ggX4_pairFrom_X4_stepsFrom
set_option maxRecDepth 20000 in
theorem ggX4_pairFrom_X2_changed : GoodIn wsX4_pairFrom wsX2_changed := goodIn_r _ [28] (by decide +kernel) (by decide +kernel)
set_option maxRecDepth 20000 in
theorem gX4_pairFrom_X2_changed : GoodIn wsX4_pairFrom (va_wsS RX4 47 yX2_changed wsX2_changed) := goodIn_app (goodIn_of _ (by decide +kernel)) ggX4_pairFrom_X2_changed
theorem dX4_pairFrom_0 : decode cX4_pairFrom 0 = .ok (.aload_n 0, 1) := by decide +kernel
theorem dX4_pairFrom_1 : decode cX4_pairFrom 1 = .ok (.iload_n 1, 1) := by decide +kernel
theorem dX4_pairFrom_2 : decode cX4_pairFrom 2 = .ok (.invokevirtual 34, 3) := by decide +kernel
theorem dX4_pairFrom_5 : decode cX4_pairFrom 5 = .ok (.istore_n 3, 1) := by decide +kernel
theorem dX4_pairFrom_6 : decode cX4_pairFrom 6 = .ok (.iload_n 3, 1) := by decide +kernel
theorem dX4_pairFrom_7 : decode cX4_pairFrom 7 = .ok (.iconst 1, 1) := by decide +kernel
theorem dX4_pairFrom_8 : decode cX4_pairFrom 8 = .ok (.if_icmp .ge 6, 3) := by decide +kernel
theorem dX4_pairFrom_11 : decode cX4_pairFrom 11 = .ok (.bipush (-6), 2) := by decide +kernel
theorem dX4_pairFrom_13 : decode cX4_pairFrom 13 = .ok (.ireturn, 1) := by decide +kernel
theorem dX4_pairFrom_14 : decode cX4_pairFrom 14 = .ok (.iconst 0, 1) := by decide +kernel
theorem dX4_pairFrom_15 : decode cX4_pairFrom 15 = .ok (.istore 4, 2) := by decide +kernel
theorem dX4_pairFrom_17 : decode cX4_pairFrom 17 = .ok (.iload 4, 2) := by decide +kernel
theorem dX4_pairFrom_19 : decode cX4_pairFrom 19 = .ok (.bipush 15, 2) := by decide +kernel
theorem dX4_pairFrom_21 : decode cX4_pairFrom 21 = .ok (.if_icmp .ge 48, 3) := by decide +kernel
theorem dX4_pairFrom_24 : decode cX4_pairFrom 24 = .ok (.iload_n 2, 1) := by decide +kernel
theorem dX4_pairFrom_25 : decode cX4_pairFrom 25 = .ok (.iload 4, 2) := by decide +kernel
theorem dX4_pairFrom_27 : decode cX4_pairFrom 27 = .ok (.ishr, 1) := by decide +kernel
theorem dX4_pairFrom_28 : decode cX4_pairFrom 28 = .ok (.iconst 1, 1) := by decide +kernel
theorem dX4_pairFrom_29 : decode cX4_pairFrom 29 = .ok (.iand, 1) := by decide +kernel
theorem dX4_pairFrom_30 : decode cX4_pairFrom 30 = .ok (.iconst 1, 1) := by decide +kernel
theorem dX4_pairFrom_31 : decode cX4_pairFrom 31 = .ok (.if_icmp .ne 32, 3) := by decide +kernel
theorem dX4_pairFrom_34 : decode cX4_pairFrom 34 = .ok (.aload_n 0, 1) := by decide +kernel
theorem dX4_pairFrom_35 : decode cX4_pairFrom 35 = .ok (.iload_n 1, 1) := by decide +kernel
theorem dX4_pairFrom_36 : decode cX4_pairFrom 36 = .ok (.getstatic 41, 3) := by decide +kernel
theorem dX4_pairFrom_39 : decode cX4_pairFrom 39 = .ok (.iload 4, 2) := by decide +kernel
theorem dX4_pairFrom_41 : decode cX4_pairFrom 41 = .ok (.iaload, 1) := by decide +kernel
theorem dX4_pairFrom_42 : decode cX4_pairFrom 42 = .ok (.getstatic 44, 3) := by decide +kernel
theorem dX4_pairFrom_45 : decode cX4_pairFrom 45 = .ok (.iload 4, 2) := by decide +kernel
theorem dX4_pairFrom_47 : decode cX4_pairFrom 47 = .ok (.iaload, 1) := by decide +kernel
theorem dX4_pairFrom_48 : decode cX4_pairFrom 48 = .ok (.invokestatic 47, 3) := by decide +kernel
theorem dX4_pairFrom_51 : decode cX4_pairFrom 51 = .ok (.invokevirtual 34, 3) := by decide +kernel
theorem dX4_pairFrom_54 : decode cX4_pairFrom 54 = .ok (.iload_n 3, 1) := by decide +kernel
theorem dX4_pairFrom_55 : decode cX4_pairFrom 55 = .ok (.iconst 1, 1) := by decide +kernel
theorem dX4_pairFrom_56 : decode cX4_pairFrom 56 = .ok (.isub, 1) := by decide +kernel
theorem dX4_pairFrom_57 : decode cX4_pairFrom 57 = .ok (.if_icmp .ne 6, 3) := by decide +kernel
theorem dX4_pairFrom_60 : decode cX4_pairFrom 60 = .ok (.iload 4, 2) := by decide +kernel
theorem dX4_pairFrom_62 : decode cX4_pairFrom 62 = .ok (.ireturn, 1) := by decide +kernel
theorem dX4_pairFrom_63 : decode cX4_pairFrom 63 = .ok (.iinc 4 1, 3) := by decide +kernel
theorem dX4_pairFrom_66 : decode cX4_pairFrom 66 = .ok (.goto (-49), 3) := by decide +kernel
theorem dX4_pairFrom_69 : decode cX4_pairFrom 69 = .ok (.bipush (-6), 2) := by decide +kernel
theorem dX4_pairFrom_71 : decode cX4_pairFrom 71 = .ok (.ireturn, 1) := by decide +kernel
theorem dX5_init_0 : decode cX5_init 0 = .ok (.aload_n 0, 1) := by decide +kernel
theorem dX5_init_1 : decode cX5_init 1 = .ok (.invokespecial 3, 3) := by decide +kernel
theorem dX5_init_4 : decode cX5_init 4 = .ok (.aload_n 0, 1) := by decide +kernel
theorem dX5_init_5 : decode cX5_init 5 = .ok (.bipush 8, 2) := by decide +kernel
theorem dX5_init_7 : decode cX5_init 7 = .ok (.newarray .int, 2) := by decide +kernel
theorem dX5_init_9 : decode cX5_init 9 = .ok (.putfield 11, 3) := by decide +kernel
theorem dX5_init_12 : decode cX5_init 12 = .ok (.aload_n 0, 1) := by decide +kernel
theorem dX5_init_13 : decode cX5_init 13 = .ok (.bipush 8, 2) := by decide +kernel
theorem dX5_init_15 : decode cX5_init 15 = .ok (.newarray .int, 2) := by decide +kernel
theorem dX5_init_17 : decode cX5_init 17 = .ok (.putfield 15, 3) := by decide +kernel
theorem dX5_init_20 : decode cX5_init 20 = .ok (.aload_n 0, 1) := by decide +kernel
theorem dX5_init_21 : decode cX5_init 21 = .ok (.bipush 8, 2) := by decide +kernel
theorem dX5_init_23 : decode cX5_init 23 = .ok (.newarray .int, 2) := by decide +kernel
theorem dX5_init_25 : decode cX5_init 25 = .ok (.putfield 18, 3) := by decide +kernel
theorem dX5_init_28 : decode cX5_init 28 = .ok (.return_, 1) := by decide +kernel
set_option maxRecDepth 20000 in
theorem ggX5_isWeighing_X9_isWithin : GoodIn wsX5_isWeighing wsX9_isWithin := goodIn_r _ [3] (by decide +kernel) (by decide +kernel)
set_option maxRecDepth 20000 in
theorem gX5_isWeighing_X9_isWithin_n21 : GoodIn wsX5_isWeighing (wsX9_isWithin) := ggX5_isWeighing_X9_isWithin
set_option maxRecDepth 20000 in
theorem ggX5_isWeighing_J6_bitCount_0f7a4 : GoodIn wsX5_isWeighing wsJ6_bitCount_0f7a4 := goodIn_r _ [7, 8, 9, 10] (by decide +kernel) (by decide +kernel)
set_option maxRecDepth 20000 in
theorem gX5_isWeighing_J6_bitCount_0f7a4 : GoodIn wsX5_isWeighing (va_wsS RX5 25 yJ6_bitCount_0f7a4 wsJ6_bitCount_0f7a4) := goodIn_app (goodIn_of _ (by decide +kernel)) ggX5_isWeighing_J6_bitCount_0f7a4
theorem dX5_isWeighing_0 : decode cX5_isWeighing 0 = .ok (.iload_n 0, 1) := by decide +kernel
theorem dX5_isWeighing_1 : decode cX5_isWeighing 1 = .ok (.iconst 1, 1) := by decide +kernel
theorem dX5_isWeighing_2 : decode cX5_isWeighing 2 = .ok (.sipush 4095, 3) := by decide +kernel
theorem dX5_isWeighing_5 : decode cX5_isWeighing 5 = .ok (.invokestatic 21, 3) := by decide +kernel
theorem dX5_isWeighing_8 : decode cX5_isWeighing 8 = .ok (.ifCond .eq 35, 3) := by decide +kernel
theorem dX5_isWeighing_11 : decode cX5_isWeighing 11 = .ok (.iload_n 1, 1) := by decide +kernel
theorem dX5_isWeighing_12 : decode cX5_isWeighing 12 = .ok (.iconst 1, 1) := by decide +kernel
theorem dX5_isWeighing_13 : decode cX5_isWeighing 13 = .ok (.sipush 4095, 3) := by decide +kernel
theorem dX5_isWeighing_16 : decode cX5_isWeighing 16 = .ok (.invokestatic 21, 3) := by decide +kernel
theorem dX5_isWeighing_19 : decode cX5_isWeighing 19 = .ok (.ifCond .eq 24, 3) := by decide +kernel
theorem dX5_isWeighing_22 : decode cX5_isWeighing 22 = .ok (.iload_n 0, 1) := by decide +kernel
theorem dX5_isWeighing_23 : decode cX5_isWeighing 23 = .ok (.iload_n 1, 1) := by decide +kernel
theorem dX5_isWeighing_24 : decode cX5_isWeighing 24 = .ok (.iand, 1) := by decide +kernel
theorem dX5_isWeighing_25 : decode cX5_isWeighing 25 = .ok (.ifCond .ne 18, 3) := by decide +kernel
theorem dX5_isWeighing_28 : decode cX5_isWeighing 28 = .ok (.iload_n 0, 1) := by decide +kernel
theorem dX5_isWeighing_29 : decode cX5_isWeighing 29 = .ok (.invokestatic 25, 3) := by decide +kernel
theorem dX5_isWeighing_32 : decode cX5_isWeighing 32 = .ok (.iload_n 1, 1) := by decide +kernel
theorem dX5_isWeighing_33 : decode cX5_isWeighing 33 = .ok (.invokestatic 25, 3) := by decide +kernel
theorem dX5_isWeighing_36 : decode cX5_isWeighing 36 = .ok (.if_icmp .ne 7, 3) := by decide +kernel
theorem dX5_isWeighing_39 : decode cX5_isWeighing 39 = .ok (.iconst 1, 1) := by decide +kernel
theorem dX5_isWeighing_40 : decode cX5_isWeighing 40 = .ok (.goto 4, 3) := by decide +kernel
theorem dX5_isWeighing_43 : decode cX5_isWeighing 43 = .ok (.iconst 0, 1) := by decide +kernel
theorem dX5_isWeighing_44 : decode cX5_isWeighing 44 = .ok (.ireturn, 1) := by decide +kernel
theorem dX5_append_0 : decode cX5_append 0 = .ok (.aload_n 0, 1) := by decide +kernel
theorem dX5_append_1 : decode cX5_append 1 = .ok (.getfield 31, 3) := by decide +kernel
theorem dX5_append_4 : decode cX5_append 4 = .ok (.bipush 8, 2) := by decide +kernel
theorem dX5_append_6 : decode cX5_append 6 = .ok (.if_icmp .lt 5, 3) := by decide +kernel
theorem dX5_append_9 : decode cX5_append 9 = .ok (.iconst 0, 1) := by decide +kernel
theorem dX5_append_10 : decode cX5_append 10 = .ok (.ireturn, 1) := by decide +kernel
theorem dX5_append_11 : decode cX5_append 11 = .ok (.aload_n 0, 1) := by decide +kernel
theorem dX5_append_12 : decode cX5_append 12 = .ok (.getfield 11, 3) := by decide +kernel
theorem dX5_append_15 : decode cX5_append 15 = .ok (.aload_n 0, 1) := by decide +kernel
theorem dX5_append_16 : decode cX5_append 16 = .ok (.getfield 31, 3) := by decide +kernel
theorem dX5_append_19 : decode cX5_append 19 = .ok (.iload_n 1, 1) := by decide +kernel
theorem dX5_append_20 : decode cX5_append 20 = .ok (.iastore, 1) := by decide +kernel
theorem dX5_append_21 : decode cX5_append 21 = .ok (.aload_n 0, 1) := by decide +kernel
theorem dX5_append_22 : decode cX5_append 22 = .ok (.getfield 15, 3) := by decide +kernel
theorem dX5_append_25 : decode cX5_append 25 = .ok (.aload_n 0, 1) := by decide +kernel
theorem dX5_append_26 : decode cX5_append 26 = .ok (.getfield 31, 3) := by decide +kernel
theorem dX5_append_29 : decode cX5_append 29 = .ok (.iload_n 2, 1) := by decide +kernel
theorem dX5_append_30 : decode cX5_append 30 = .ok (.iastore, 1) := by decide +kernel
theorem dX5_append_31 : decode cX5_append 31 = .ok (.aload_n 0, 1) := by decide +kernel
theorem dX5_append_32 : decode cX5_append 32 = .ok (.getfield 18, 3) := by decide +kernel
theorem dX5_append_35 : decode cX5_append 35 = .ok (.aload_n 0, 1) := by decide +kernel
theorem dX5_append_36 : decode cX5_append 36 = .ok (.getfield 31, 3) := by decide +kernel
theorem dX5_append_39 : decode cX5_append 39 = .ok (.iload_n 3, 1) := by decide +kernel
theorem dX5_append_40 : decode cX5_append 40 = .ok (.iastore, 1) := by decide +kernel
theorem dX5_append_41 : decode cX5_append 41 = .ok (.aload_n 0, 1) := by decide +kernel
theorem dX5_append_42 : decode cX5_append 42 = .ok (.dup, 1) := by decide +kernel
theorem dX5_append_43 : decode cX5_append 43 = .ok (.getfield 31, 3) := by decide +kernel
theorem dX5_append_46 : decode cX5_append 46 = .ok (.iconst 1, 1) := by decide +kernel
theorem dX5_append_47 : decode cX5_append 47 = .ok (.iadd, 1) := by decide +kernel
theorem dX5_append_48 : decode cX5_append 48 = .ok (.putfield 31, 3) := by decide +kernel
theorem dX5_append_51 : decode cX5_append 51 = .ok (.iconst 1, 1) := by decide +kernel
theorem dX5_append_52 : decode cX5_append 52 = .ok (.ireturn, 1) := by decide +kernel
theorem dX5_copyFrom_0 : decode cX5_copyFrom 0 = .ok (.aload_n 0, 1) := by decide +kernel
theorem dX5_copyFrom_1 : decode cX5_copyFrom 1 = .ok (.aload_n 1, 1) := by decide +kernel
theorem dX5_copyFrom_2 : decode cX5_copyFrom 2 = .ok (.getfield 31, 3) := by decide +kernel
theorem dX5_copyFrom_5 : decode cX5_copyFrom 5 = .ok (.putfield 31, 3) := by decide +kernel
theorem dX5_copyFrom_8 : decode cX5_copyFrom 8 = .ok (.iconst 0, 1) := by decide +kernel
theorem dX5_copyFrom_9 : decode cX5_copyFrom 9 = .ok (.istore_n 2, 1) := by decide +kernel
theorem dX5_copyFrom_10 : decode cX5_copyFrom 10 = .ok (.iload_n 2, 1) := by decide +kernel
theorem dX5_copyFrom_11 : decode cX5_copyFrom 11 = .ok (.bipush 8, 2) := by decide +kernel
theorem dX5_copyFrom_13 : decode cX5_copyFrom 13 = .ok (.if_icmp .ge 45, 3) := by decide +kernel
theorem dX5_copyFrom_16 : decode cX5_copyFrom 16 = .ok (.aload_n 0, 1) := by decide +kernel
theorem dX5_copyFrom_17 : decode cX5_copyFrom 17 = .ok (.getfield 11, 3) := by decide +kernel
theorem dX5_copyFrom_20 : decode cX5_copyFrom 20 = .ok (.iload_n 2, 1) := by decide +kernel
theorem dX5_copyFrom_21 : decode cX5_copyFrom 21 = .ok (.aload_n 1, 1) := by decide +kernel
theorem dX5_copyFrom_22 : decode cX5_copyFrom 22 = .ok (.getfield 11, 3) := by decide +kernel
theorem dX5_copyFrom_25 : decode cX5_copyFrom 25 = .ok (.iload_n 2, 1) := by decide +kernel
theorem dX5_copyFrom_26 : decode cX5_copyFrom 26 = .ok (.iaload, 1) := by decide +kernel
theorem dX5_copyFrom_27 : decode cX5_copyFrom 27 = .ok (.iastore, 1) := by decide +kernel
theorem dX5_copyFrom_28 : decode cX5_copyFrom 28 = .ok (.aload_n 0, 1) := by decide +kernel
theorem dX5_copyFrom_29 : decode cX5_copyFrom 29 = .ok (.getfield 15, 3) := by decide +kernel
theorem dX5_copyFrom_32 : decode cX5_copyFrom 32 = .ok (.iload_n 2, 1) := by decide +kernel
theorem dX5_copyFrom_33 : decode cX5_copyFrom 33 = .ok (.aload_n 1, 1) := by decide +kernel
theorem dX5_copyFrom_34 : decode cX5_copyFrom 34 = .ok (.getfield 15, 3) := by decide +kernel
theorem dX5_copyFrom_37 : decode cX5_copyFrom 37 = .ok (.iload_n 2, 1) := by decide +kernel
theorem dX5_copyFrom_38 : decode cX5_copyFrom 38 = .ok (.iaload, 1) := by decide +kernel
theorem dX5_copyFrom_39 : decode cX5_copyFrom 39 = .ok (.iastore, 1) := by decide +kernel
theorem dX5_copyFrom_40 : decode cX5_copyFrom 40 = .ok (.aload_n 0, 1) := by decide +kernel
theorem dX5_copyFrom_41 : decode cX5_copyFrom 41 = .ok (.getfield 18, 3) := by decide +kernel
theorem dX5_copyFrom_44 : decode cX5_copyFrom 44 = .ok (.iload_n 2, 1) := by decide +kernel
theorem dX5_copyFrom_45 : decode cX5_copyFrom 45 = .ok (.aload_n 1, 1) := by decide +kernel
theorem dX5_copyFrom_46 : decode cX5_copyFrom 46 = .ok (.getfield 18, 3) := by decide +kernel
theorem dX5_copyFrom_49 : decode cX5_copyFrom 49 = .ok (.iload_n 2, 1) := by decide +kernel
theorem dX5_copyFrom_50 : decode cX5_copyFrom 50 = .ok (.iaload, 1) := by decide +kernel
theorem dX5_copyFrom_51 : decode cX5_copyFrom 51 = .ok (.iastore, 1) := by decide +kernel
theorem dX5_copyFrom_52 : decode cX5_copyFrom 52 = .ok (.iinc 2 1, 3) := by decide +kernel
theorem dX5_copyFrom_55 : decode cX5_copyFrom 55 = .ok (.goto (-45), 3) := by decide +kernel
theorem dX5_copyFrom_58 : decode cX5_copyFrom 58 = .ok (.return_, 1) := by decide +kernel
theorem dX5_heavierIn_0 : decode cX5_heavierIn 0 = .ok (.iload_n 0, 1) := by decide +kernel
theorem dX5_heavierIn_1 : decode cX5_heavierIn 1 = .ok (.ifCond .ne 5, 3) := by decide +kernel
theorem dX5_heavierIn_4 : decode cX5_heavierIn 4 = .ok (.iconst 0, 1) := by decide +kernel
theorem dX5_heavierIn_5 : decode cX5_heavierIn 5 = .ok (.ireturn, 1) := by decide +kernel
theorem dX5_heavierIn_6 : decode cX5_heavierIn 6 = .ok (.iload_n 0, 1) := by decide +kernel
theorem dX5_heavierIn_7 : decode cX5_heavierIn 7 = .ok (.iconst 1, 1) := by decide +kernel
theorem dX5_heavierIn_8 : decode cX5_heavierIn 8 = .ok (.isub, 1) := by decide +kernel
theorem dX5_heavierIn_9 : decode cX5_heavierIn 9 = .ok (.bipush 12, 2) := by decide +kernel
theorem dX5_heavierIn_11 : decode cX5_heavierIn 11 = .ok (.irem, 1) := by decide +kernel
theorem dX5_heavierIn_12 : decode cX5_heavierIn 12 = .ok (.istore_n 3, 1) := by decide +kernel
theorem dX5_heavierIn_13 : decode cX5_heavierIn 13 = .ok (.iload_n 0, 1) := by decide +kernel
theorem dX5_heavierIn_14 : decode cX5_heavierIn 14 = .ok (.bipush 12, 2) := by decide +kernel
theorem dX5_heavierIn_16 : decode cX5_heavierIn 16 = .ok (.if_icmp .gt 7, 3) := by decide +kernel
theorem dX5_heavierIn_19 : decode cX5_heavierIn 19 = .ok (.iconst 1, 1) := by decide +kernel
theorem dX5_heavierIn_20 : decode cX5_heavierIn 20 = .ok (.goto 4, 3) := by decide +kernel
theorem dX5_heavierIn_23 : decode cX5_heavierIn 23 = .ok (.iconst 0, 1) := by decide +kernel
theorem dX5_heavierIn_24 : decode cX5_heavierIn 24 = .ok (.istore 4, 2) := by decide +kernel
theorem dX5_heavierIn_26 : decode cX5_heavierIn 26 = .ok (.iload_n 1, 1) := by decide +kernel
theorem dX5_heavierIn_27 : decode cX5_heavierIn 27 = .ok (.iload_n 3, 1) := by decide +kernel
theorem dX5_heavierIn_28 : decode cX5_heavierIn 28 = .ok (.ishr, 1) := by decide +kernel
theorem dX5_heavierIn_29 : decode cX5_heavierIn 29 = .ok (.iconst 1, 1) := by decide +kernel
theorem dX5_heavierIn_30 : decode cX5_heavierIn 30 = .ok (.iand, 1) := by decide +kernel
theorem dX5_heavierIn_31 : decode cX5_heavierIn 31 = .ok (.iconst 1, 1) := by decide +kernel
theorem dX5_heavierIn_32 : decode cX5_heavierIn 32 = .ok (.if_icmp .ne 14, 3) := by decide +kernel
theorem dX5_heavierIn_35 : decode cX5_heavierIn 35 = .ok (.iload 4, 2) := by decide +kernel
theorem dX5_heavierIn_37 : decode cX5_heavierIn 37 = .ok (.ifCond .eq 7, 3) := by decide +kernel
theorem dX5_heavierIn_40 : decode cX5_heavierIn 40 = .ok (.iconst 1, 1) := by decide +kernel
theorem dX5_heavierIn_41 : decode cX5_heavierIn 41 = .ok (.goto 4, 3) := by decide +kernel
theorem dX5_heavierIn_44 : decode cX5_heavierIn 44 = .ok (.iconst 2, 1) := by decide +kernel
theorem dX5_heavierIn_45 : decode cX5_heavierIn 45 = .ok (.ireturn, 1) := by decide +kernel
theorem dX5_heavierIn_46 : decode cX5_heavierIn 46 = .ok (.iload_n 2, 1) := by decide +kernel
theorem dX5_heavierIn_47 : decode cX5_heavierIn 47 = .ok (.iload_n 3, 1) := by decide +kernel
theorem dX5_heavierIn_48 : decode cX5_heavierIn 48 = .ok (.ishr, 1) := by decide +kernel
theorem dX5_heavierIn_49 : decode cX5_heavierIn 49 = .ok (.iconst 1, 1) := by decide +kernel
theorem dX5_heavierIn_50 : decode cX5_heavierIn 50 = .ok (.iand, 1) := by decide +kernel
theorem dX5_heavierIn_51 : decode cX5_heavierIn 51 = .ok (.iconst 1, 1) := by decide +kernel
theorem dX5_heavierIn_52 : decode cX5_heavierIn 52 = .ok (.if_icmp .ne 14, 3) := by decide +kernel
theorem dX5_heavierIn_55 : decode cX5_heavierIn 55 = .ok (.iload 4, 2) := by decide +kernel
theorem dX5_heavierIn_57 : decode cX5_heavierIn 57 = .ok (.ifCond .eq 7, 3) := by decide +kernel
theorem dX5_heavierIn_60 : decode cX5_heavierIn 60 = .ok (.iconst 2, 1) := by decide +kernel
theorem dX5_heavierIn_61 : decode cX5_heavierIn 61 = .ok (.goto 4, 3) := by decide +kernel
theorem dX5_heavierIn_64 : decode cX5_heavierIn 64 = .ok (.iconst 1, 1) := by decide +kernel
theorem dX5_heavierIn_65 : decode cX5_heavierIn 65 = .ok (.ireturn, 1) := by decide +kernel
theorem dX5_heavierIn_66 : decode cX5_heavierIn 66 = .ok (.iconst 0, 1) := by decide +kernel
theorem dX5_heavierIn_67 : decode cX5_heavierIn 67 = .ok (.ireturn, 1) := by decide +kernel
set_option maxRecDepth 20000 in
theorem ggX5_isFitting_X5_heavierIn : GoodIn wsX5_isFitting wsX5_heavierIn := goodIn_r _ [8] (by decide +kernel) (by decide +kernel)
set_option maxRecDepth 20000 in
theorem gX5_isFitting_X5_heavierIn : GoodIn wsX5_isFitting (va_wsS RX5 35 yX5_heavierIn wsX5_heavierIn) := goodIn_app (goodIn_of _ (by decide +kernel)) ggX5_isFitting_X5_heavierIn
theorem dX5_isFitting_0 : decode cX5_isFitting 0 = .ok (.iconst 0, 1) := by decide +kernel
theorem dX5_isFitting_1 : decode cX5_isFitting 1 = .ok (.istore_n 2, 1) := by decide +kernel
theorem dX5_isFitting_2 : decode cX5_isFitting 2 = .ok (.iload_n 2, 1) := by decide +kernel
theorem dX5_isFitting_3 : decode cX5_isFitting 3 = .ok (.aload_n 0, 1) := by decide +kernel
theorem dX5_isFitting_4 : decode cX5_isFitting 4 = .ok (.getfield 31, 3) := by decide +kernel
theorem dX5_isFitting_7 : decode cX5_isFitting 7 = .ok (.if_icmp .ge 42, 3) := by decide +kernel
theorem dX5_isFitting_10 : decode cX5_isFitting 10 = .ok (.iload_n 2, 1) := by decide +kernel
theorem dX5_isFitting_11 : decode cX5_isFitting 11 = .ok (.bipush 8, 2) := by decide +kernel
theorem dX5_isFitting_13 : decode cX5_isFitting 13 = .ok (.if_icmp .ge 36, 3) := by decide +kernel
theorem dX5_isFitting_16 : decode cX5_isFitting 16 = .ok (.iload_n 1, 1) := by decide +kernel
theorem dX5_isFitting_17 : decode cX5_isFitting 17 = .ok (.aload_n 0, 1) := by decide +kernel
theorem dX5_isFitting_18 : decode cX5_isFitting 18 = .ok (.getfield 11, 3) := by decide +kernel
theorem dX5_isFitting_21 : decode cX5_isFitting 21 = .ok (.iload_n 2, 1) := by decide +kernel
theorem dX5_isFitting_22 : decode cX5_isFitting 22 = .ok (.iaload, 1) := by decide +kernel
theorem dX5_isFitting_23 : decode cX5_isFitting 23 = .ok (.aload_n 0, 1) := by decide +kernel
theorem dX5_isFitting_24 : decode cX5_isFitting 24 = .ok (.getfield 15, 3) := by decide +kernel
theorem dX5_isFitting_27 : decode cX5_isFitting 27 = .ok (.iload_n 2, 1) := by decide +kernel
theorem dX5_isFitting_28 : decode cX5_isFitting 28 = .ok (.iaload, 1) := by decide +kernel
theorem dX5_isFitting_29 : decode cX5_isFitting 29 = .ok (.invokestatic 35, 3) := by decide +kernel
theorem dX5_isFitting_32 : decode cX5_isFitting 32 = .ok (.aload_n 0, 1) := by decide +kernel
theorem dX5_isFitting_33 : decode cX5_isFitting 33 = .ok (.getfield 18, 3) := by decide +kernel
theorem dX5_isFitting_36 : decode cX5_isFitting 36 = .ok (.iload_n 2, 1) := by decide +kernel
theorem dX5_isFitting_37 : decode cX5_isFitting 37 = .ok (.iaload, 1) := by decide +kernel
theorem dX5_isFitting_38 : decode cX5_isFitting 38 = .ok (.if_icmp .eq 5, 3) := by decide +kernel
theorem dX5_isFitting_41 : decode cX5_isFitting 41 = .ok (.iconst 0, 1) := by decide +kernel
theorem dX5_isFitting_42 : decode cX5_isFitting 42 = .ok (.ireturn, 1) := by decide +kernel
theorem dX5_isFitting_43 : decode cX5_isFitting 43 = .ok (.iinc 2 1, 3) := by decide +kernel
theorem dX5_isFitting_46 : decode cX5_isFitting 46 = .ok (.goto (-44), 3) := by decide +kernel
theorem dX5_isFitting_49 : decode cX5_isFitting 49 = .ok (.iconst 1, 1) := by decide +kernel
theorem dX5_isFitting_50 : decode cX5_isFitting 50 = .ok (.ireturn, 1) := by decide +kernel
set_option maxRecDepth 20000 in
theorem ggX5_fittingCases_X5_isFitting : GoodIn wsX5_fittingCases wsX5_isFitting := goodIn_r _ [5, 6, 7, 8, 9, 10, 11, 4, 12, 13, 14, 15, 16] (by decide +kernel) (by decide +kernel)
set_option maxRecDepth 20000 in
theorem gX5_fittingCases_X5_isFitting : GoodIn wsX5_fittingCases (wsV RX5 39 RX5 yX5_isFitting wsX5_isFitting) := goodIn_app (goodIn_of _ (by decide +kernel)) ggX5_fittingCases_X5_isFitting
theorem dX5_fittingCases_0 : decode cX5_fittingCases 0 = .ok (.iconst 0, 1) := by decide +kernel
theorem dX5_fittingCases_1 : decode cX5_fittingCases 1 = .ok (.istore_n 1, 1) := by decide +kernel
theorem dX5_fittingCases_2 : decode cX5_fittingCases 2 = .ok (.iconst 0, 1) := by decide +kernel
theorem dX5_fittingCases_3 : decode cX5_fittingCases 3 = .ok (.istore_n 2, 1) := by decide +kernel
theorem dX5_fittingCases_4 : decode cX5_fittingCases 4 = .ok (.iload_n 2, 1) := by decide +kernel
theorem dX5_fittingCases_5 : decode cX5_fittingCases 5 = .ok (.bipush 24, 2) := by decide +kernel
theorem dX5_fittingCases_7 : decode cX5_fittingCases 7 = .ok (.if_icmp .gt 20, 3) := by decide +kernel
theorem dX5_fittingCases_10 : decode cX5_fittingCases 10 = .ok (.aload_n 0, 1) := by decide +kernel
theorem dX5_fittingCases_11 : decode cX5_fittingCases 11 = .ok (.iload_n 2, 1) := by decide +kernel
theorem dX5_fittingCases_12 : decode cX5_fittingCases 12 = .ok (.invokevirtual 39, 3) := by decide +kernel
theorem dX5_fittingCases_15 : decode cX5_fittingCases 15 = .ok (.ifCond .eq 6, 3) := by decide +kernel
theorem dX5_fittingCases_18 : decode cX5_fittingCases 18 = .ok (.iinc 1 1, 3) := by decide +kernel
theorem dX5_fittingCases_21 : decode cX5_fittingCases 21 = .ok (.iinc 2 1, 3) := by decide +kernel
theorem dX5_fittingCases_24 : decode cX5_fittingCases 24 = .ok (.goto (-20), 3) := by decide +kernel
theorem dX5_fittingCases_27 : decode cX5_fittingCases 27 = .ok (.iload_n 1, 1) := by decide +kernel
theorem dX5_fittingCases_28 : decode cX5_fittingCases 28 = .ok (.ireturn, 1) := by decide +kernel
set_option maxRecDepth 20000 in
theorem ggX5_fittingCase_X5_isFitting : GoodIn wsX5_fittingCase wsX5_isFitting := goodIn_r _ [5, 6, 7, 8, 9, 10, 11, 4, 12, 13, 14, 15, 16] (by decide +kernel) (by decide +kernel)
set_option maxRecDepth 20000 in
theorem gX5_fittingCase_X5_isFitting : GoodIn wsX5_fittingCase (wsV RX5 39 RX5 yX5_isFitting wsX5_isFitting) := goodIn_app (goodIn_of _ (by decide +kernel)) ggX5_fittingCase_X5_isFitting
theorem dX5_fittingCase_0 : decode cX5_fittingCase 0 = .ok (.iconst 0, 1) := by decide +kernel
theorem dX5_fittingCase_1 : decode cX5_fittingCase 1 = .ok (.istore_n 2, 1) := by decide +kernel
theorem dX5_fittingCase_2 : decode cX5_fittingCase 2 = .ok (.iconst 0, 1) := by decide +kernel
theorem dX5_fittingCase_3 : decode cX5_fittingCase 3 = .ok (.istore_n 3, 1) := by decide +kernel
theorem dX5_fittingCase_4 : decode cX5_fittingCase 4 = .ok (.iload_n 3, 1) := by decide +kernel
theorem dX5_fittingCase_5 : decode cX5_fittingCase 5 = .ok (.bipush 24, 2) := by decide +kernel
theorem dX5_fittingCase_7 : decode cX5_fittingCase 7 = .ok (.if_icmp .gt 27, 3) := by decide +kernel
theorem dX5_fittingCase_10 : decode cX5_fittingCase 10 = .ok (.aload_n 0, 1) := by decide +kernel
theorem dX5_fittingCase_11 : decode cX5_fittingCase 11 = .ok (.iload_n 3, 1) := by decide +kernel
theorem dX5_fittingCase_12 : decode cX5_fittingCase 12 = .ok (.invokevirtual 39, 3) := by decide +kernel
theorem dX5_fittingCase_15 : decode cX5_fittingCase 15 = .ok (.ifCond .eq 13, 3) := by decide +kernel
theorem dX5_fittingCase_18 : decode cX5_fittingCase 18 = .ok (.iload_n 2, 1) := by decide +kernel
theorem dX5_fittingCase_19 : decode cX5_fittingCase 19 = .ok (.iload_n 1, 1) := by decide +kernel
theorem dX5_fittingCase_20 : decode cX5_fittingCase 20 = .ok (.if_icmp .ne 5, 3) := by decide +kernel
theorem dX5_fittingCase_23 : decode cX5_fittingCase 23 = .ok (.iload_n 3, 1) := by decide +kernel
theorem dX5_fittingCase_24 : decode cX5_fittingCase 24 = .ok (.ireturn, 1) := by decide +kernel
theorem dX5_fittingCase_25 : decode cX5_fittingCase 25 = .ok (.iinc 2 1, 3) := by decide +kernel
theorem dX5_fittingCase_28 : decode cX5_fittingCase 28 = .ok (.iinc 3 1, 3) := by decide +kernel
theorem dX5_fittingCase_31 : decode cX5_fittingCase 31 = .ok (.goto (-27), 3) := by decide +kernel
theorem dX5_fittingCase_34 : decode cX5_fittingCase 34 = .ok (.bipush (-6), 2) := by decide +kernel
theorem dX5_fittingCase_36 : decode cX5_fittingCase 36 = .ok (.ireturn, 1) := by decide +kernel
set_option maxRecDepth 20000 in
theorem ggX5_mostLeft_X5_isFitting : GoodIn wsX5_mostLeft wsX5_isFitting := goodIn_r _ [9, 10, 11, 12, 13, 14, 15, 8, 16, 17, 18, 19, 20] (by decide +kernel) (by decide +kernel)
set_option maxRecDepth 20000 in
theorem gX5_mostLeft_X5_isFitting : GoodIn wsX5_mostLeft (wsV RX5 39 RX5 yX5_isFitting wsX5_isFitting) := goodIn_app (goodIn_of _ (by decide +kernel)) ggX5_mostLeft_X5_isFitting
set_option maxRecDepth 20000 in
theorem ggX5_mostLeft_X5_heavierIn : GoodIn wsX5_mostLeft wsX5_heavierIn := goodIn_r _ [16] (by decide +kernel) (by decide +kernel)
set_option maxRecDepth 20000 in
theorem gX5_mostLeft_X5_heavierIn : GoodIn wsX5_mostLeft (va_wsS RX5 35 yX5_heavierIn wsX5_heavierIn) := goodIn_app (goodIn_of _ (by decide +kernel)) ggX5_mostLeft_X5_heavierIn
theorem dX5_mostLeft_0 : decode cX5_mostLeft 0 = .ok (.iconst 0, 1) := by decide +kernel
theorem dX5_mostLeft_1 : decode cX5_mostLeft 1 = .ok (.istore_n 3, 1) := by decide +kernel
theorem dX5_mostLeft_2 : decode cX5_mostLeft 2 = .ok (.iconst 0, 1) := by decide +kernel
theorem dX5_mostLeft_3 : decode cX5_mostLeft 3 = .ok (.istore 4, 2) := by decide +kernel
theorem dX5_mostLeft_5 : decode cX5_mostLeft 5 = .ok (.iconst 0, 1) := by decide +kernel
theorem dX5_mostLeft_6 : decode cX5_mostLeft 6 = .ok (.istore 5, 2) := by decide +kernel
theorem dX5_mostLeft_8 : decode cX5_mostLeft 8 = .ok (.iconst 0, 1) := by decide +kernel
theorem dX5_mostLeft_9 : decode cX5_mostLeft 9 = .ok (.istore 6, 2) := by decide +kernel
theorem dX5_mostLeft_11 : decode cX5_mostLeft 11 = .ok (.iload 6, 2) := by decide +kernel
theorem dX5_mostLeft_13 : decode cX5_mostLeft 13 = .ok (.bipush 24, 2) := by decide +kernel
theorem dX5_mostLeft_15 : decode cX5_mostLeft 15 = .ok (.if_icmp .gt 72, 3) := by decide +kernel
theorem dX5_mostLeft_18 : decode cX5_mostLeft 18 = .ok (.aload_n 0, 1) := by decide +kernel
theorem dX5_mostLeft_19 : decode cX5_mostLeft 19 = .ok (.iload 6, 2) := by decide +kernel
theorem dX5_mostLeft_21 : decode cX5_mostLeft 21 = .ok (.invokevirtual 39, 3) := by decide +kernel
theorem dX5_mostLeft_24 : decode cX5_mostLeft 24 = .ok (.ifCond .eq 57, 3) := by decide +kernel
theorem dX5_mostLeft_27 : decode cX5_mostLeft 27 = .ok (.iload 6, 2) := by decide +kernel
theorem dX5_mostLeft_29 : decode cX5_mostLeft 29 = .ok (.iload_n 1, 1) := by decide +kernel
theorem dX5_mostLeft_30 : decode cX5_mostLeft 30 = .ok (.iload_n 2, 1) := by decide +kernel
theorem dX5_mostLeft_31 : decode cX5_mostLeft 31 = .ok (.invokestatic 35, 3) := by decide +kernel
theorem dX5_mostLeft_34 : decode cX5_mostLeft 34 = .ok (.istore 7, 2) := by decide +kernel
theorem dX5_mostLeft_36 : decode cX5_mostLeft 36 = .ok (.iload_n 3, 1) := by decide +kernel
theorem dX5_mostLeft_37 : decode cX5_mostLeft 37 = .ok (.iload 7, 2) := by decide +kernel
theorem dX5_mostLeft_39 : decode cX5_mostLeft 39 = .ok (.ifCond .ne 7, 3) := by decide +kernel
theorem dX5_mostLeft_42 : decode cX5_mostLeft 42 = .ok (.iconst 1, 1) := by decide +kernel
theorem dX5_mostLeft_43 : decode cX5_mostLeft 43 = .ok (.goto 4, 3) := by decide +kernel
theorem dX5_mostLeft_46 : decode cX5_mostLeft 46 = .ok (.iconst 0, 1) := by decide +kernel
theorem dX5_mostLeft_47 : decode cX5_mostLeft 47 = .ok (.iadd, 1) := by decide +kernel
theorem dX5_mostLeft_48 : decode cX5_mostLeft 48 = .ok (.istore_n 3, 1) := by decide +kernel
theorem dX5_mostLeft_49 : decode cX5_mostLeft 49 = .ok (.iload 4, 2) := by decide +kernel
theorem dX5_mostLeft_51 : decode cX5_mostLeft 51 = .ok (.iload 7, 2) := by decide +kernel
theorem dX5_mostLeft_53 : decode cX5_mostLeft 53 = .ok (.iconst 1, 1) := by decide +kernel
theorem dX5_mostLeft_54 : decode cX5_mostLeft 54 = .ok (.if_icmp .ne 7, 3) := by decide +kernel
theorem dX5_mostLeft_57 : decode cX5_mostLeft 57 = .ok (.iconst 1, 1) := by decide +kernel
theorem dX5_mostLeft_58 : decode cX5_mostLeft 58 = .ok (.goto 4, 3) := by decide +kernel
theorem dX5_mostLeft_61 : decode cX5_mostLeft 61 = .ok (.iconst 0, 1) := by decide +kernel
theorem dX5_mostLeft_62 : decode cX5_mostLeft 62 = .ok (.iadd, 1) := by decide +kernel
theorem dX5_mostLeft_63 : decode cX5_mostLeft 63 = .ok (.istore 4, 2) := by decide +kernel
theorem dX5_mostLeft_65 : decode cX5_mostLeft 65 = .ok (.iload 5, 2) := by decide +kernel
theorem dX5_mostLeft_67 : decode cX5_mostLeft 67 = .ok (.iload 7, 2) := by decide +kernel
theorem dX5_mostLeft_69 : decode cX5_mostLeft 69 = .ok (.iconst 2, 1) := by decide +kernel
theorem dX5_mostLeft_70 : decode cX5_mostLeft 70 = .ok (.if_icmp .ne 7, 3) := by decide +kernel
theorem dX5_mostLeft_73 : decode cX5_mostLeft 73 = .ok (.iconst 1, 1) := by decide +kernel
theorem dX5_mostLeft_74 : decode cX5_mostLeft 74 = .ok (.goto 4, 3) := by decide +kernel
theorem dX5_mostLeft_77 : decode cX5_mostLeft 77 = .ok (.iconst 0, 1) := by decide +kernel
theorem dX5_mostLeft_78 : decode cX5_mostLeft 78 = .ok (.iadd, 1) := by decide +kernel
theorem dX5_mostLeft_79 : decode cX5_mostLeft 79 = .ok (.istore 5, 2) := by decide +kernel
theorem dX5_mostLeft_81 : decode cX5_mostLeft 81 = .ok (.iinc 6 1, 3) := by decide +kernel
theorem dX5_mostLeft_84 : decode cX5_mostLeft 84 = .ok (.goto (-73), 3) := by decide +kernel
theorem dX5_mostLeft_87 : decode cX5_mostLeft 87 = .ok (.iload_n 3, 1) := by decide +kernel
theorem dX5_mostLeft_88 : decode cX5_mostLeft 88 = .ok (.iload 4, 2) := by decide +kernel
theorem dX5_mostLeft_90 : decode cX5_mostLeft 90 = .ok (.iload 5, 2) := by decide +kernel
theorem dX5_mostLeft_92 : decode cX5_mostLeft 92 = .ok (.invokestatic 43, 3) := by decide +kernel
theorem dX5_mostLeft_95 : decode cX5_mostLeft 95 = .ok (.invokestatic 43, 3) := by decide +kernel
theorem dX5_mostLeft_98 : decode cX5_mostLeft 98 = .ok (.ireturn, 1) := by decide +kernel
theorem dX6_init_0 : decode cX6_init 0 = .ok (.aload_n 0, 1) := by decide +kernel
theorem dX6_init_1 : decode cX6_init 1 = .ok (.invokespecial 3, 3) := by decide +kernel
theorem dX6_init_4 : decode cX6_init 4 = .ok (.aload_n 0, 1) := by decide +kernel
theorem dX6_init_5 : decode cX6_init 5 = .ok (.bipush 16, 2) := by decide +kernel
theorem dX6_init_7 : decode cX6_init 7 = .ok (.newarray .long, 2) := by decide +kernel
theorem dX6_init_9 : decode cX6_init 9 = .ok (.putfield 11, 3) := by decide +kernel
theorem dX6_init_12 : decode cX6_init 12 = .ok (.return_, 1) := by decide +kernel
set_option maxRecDepth 20000 in
theorem ggX6_leastWinningTake_X6_findAll : GoodIn wsX6_leastWinningTake wsX6_findAll := goodIn_r _ [5, 6, 7, 8, 9, 4, 10, 11, 12, 13, 14, 15, 16, 17, 18, 19, 20] (by decide +kernel) (by decide +kernel)
set_option maxRecDepth 20000 in
theorem gX6_leastWinningTake_X6_findAll : GoodIn wsX6_leastWinningTake (wsV RX6 15 RX6 yX6_findAll wsX6_findAll) := goodIn_app (goodIn_of _ (by decide +kernel)) ggX6_leastWinningTake_X6_findAll
set_option maxRecDepth 20000 in
theorem ggX6_leastWinningTake_X6_isWonFrom : GoodIn wsX6_leastWinningTake wsX6_isWonFrom := goodIn_r _ [10, 11, 12, 13, 14, 19, 20] (by decide +kernel) (by decide +kernel)
set_option maxRecDepth 20000 in
theorem gX6_leastWinningTake_X6_isWonFrom : GoodIn wsX6_leastWinningTake (wsV RX6 18 RX6 yX6_isWonFrom wsX6_isWonFrom) := goodIn_app (goodIn_of _ (by decide +kernel)) ggX6_leastWinningTake_X6_isWonFrom
theorem dX6_leastWinningTake_0 : decode cX6_leastWinningTake 0 = .ok (.aload_n 0, 1) := by decide +kernel
theorem dX6_leastWinningTake_1 : decode cX6_leastWinningTake 1 = .ok (.invokevirtual 15, 3) := by decide +kernel
theorem dX6_leastWinningTake_4 : decode cX6_leastWinningTake 4 = .ok (.iconst 1, 1) := by decide +kernel
theorem dX6_leastWinningTake_5 : decode cX6_leastWinningTake 5 = .ok (.istore_n 2, 1) := by decide +kernel
theorem dX6_leastWinningTake_6 : decode cX6_leastWinningTake 6 = .ok (.iload_n 2, 1) := by decide +kernel
theorem dX6_leastWinningTake_7 : decode cX6_leastWinningTake 7 = .ok (.bipush 31, 2) := by decide +kernel
theorem dX6_leastWinningTake_9 : decode cX6_leastWinningTake 9 = .ok (.if_icmp .gt 32, 3) := by decide +kernel
theorem dX6_leastWinningTake_12 : decode cX6_leastWinningTake 12 = .ok (.iload_n 2, 1) := by decide +kernel
theorem dX6_leastWinningTake_13 : decode cX6_leastWinningTake 13 = .ok (.iload_n 2, 1) := by decide +kernel
theorem dX6_leastWinningTake_14 : decode cX6_leastWinningTake 14 = .ok (.imul, 1) := by decide +kernel
theorem dX6_leastWinningTake_15 : decode cX6_leastWinningTake 15 = .ok (.iload_n 1, 1) := by decide +kernel
theorem dX6_leastWinningTake_16 : decode cX6_leastWinningTake 16 = .ok (.if_icmp .gt 25, 3) := by decide +kernel
theorem dX6_leastWinningTake_19 : decode cX6_leastWinningTake 19 = .ok (.aload_n 0, 1) := by decide +kernel
theorem dX6_leastWinningTake_20 : decode cX6_leastWinningTake 20 = .ok (.iload_n 1, 1) := by decide +kernel
theorem dX6_leastWinningTake_21 : decode cX6_leastWinningTake 21 = .ok (.iload_n 2, 1) := by decide +kernel
theorem dX6_leastWinningTake_22 : decode cX6_leastWinningTake 22 = .ok (.iload_n 2, 1) := by decide +kernel
theorem dX6_leastWinningTake_23 : decode cX6_leastWinningTake 23 = .ok (.imul, 1) := by decide +kernel
theorem dX6_leastWinningTake_24 : decode cX6_leastWinningTake 24 = .ok (.isub, 1) := by decide +kernel
theorem dX6_leastWinningTake_25 : decode cX6_leastWinningTake 25 = .ok (.invokevirtual 18, 3) := by decide +kernel
theorem dX6_leastWinningTake_28 : decode cX6_leastWinningTake 28 = .ok (.ifCond .ne 7, 3) := by decide +kernel
theorem dX6_leastWinningTake_31 : decode cX6_leastWinningTake 31 = .ok (.iload_n 2, 1) := by decide +kernel
theorem dX6_leastWinningTake_32 : decode cX6_leastWinningTake 32 = .ok (.iload_n 2, 1) := by decide +kernel
theorem dX6_leastWinningTake_33 : decode cX6_leastWinningTake 33 = .ok (.imul, 1) := by decide +kernel
theorem dX6_leastWinningTake_34 : decode cX6_leastWinningTake 34 = .ok (.ireturn, 1) := by decide +kernel
theorem dX6_leastWinningTake_35 : decode cX6_leastWinningTake 35 = .ok (.iinc 2 1, 3) := by decide +kernel
theorem dX6_leastWinningTake_38 : decode cX6_leastWinningTake 38 = .ok (.goto (-32), 3) := by decide +kernel
theorem dX6_leastWinningTake_41 : decode cX6_leastWinningTake 41 = .ok (.bipush (-6), 2) := by decide +kernel
theorem dX6_leastWinningTake_43 : decode cX6_leastWinningTake 43 = .ok (.ireturn, 1) := by decide +kernel
set_option maxRecDepth 20000 in
theorem ggX6_findAll_X6_isWonFrom : GoodIn wsX6_findAll wsX6_isWonFrom := goodIn_r _ [6, 7, 8, 9, 10, 15, 16] (by decide +kernel) (by decide +kernel)
set_option maxRecDepth 20000 in
theorem gX6_findAll_X6_isWonFrom : GoodIn wsX6_findAll (wsV RX6 18 RX6 yX6_isWonFrom wsX6_isWonFrom) := goodIn_app (goodIn_of _ (by decide +kernel)) ggX6_findAll_X6_isWonFrom
set_option maxRecDepth 20000 in
theorem ggX6_findAll_X6_markAllAbove : GoodIn wsX6_findAll wsX6_markAllAbove := goodIn_r _ [14, 7, 8, 9, 10, 15, 16] (by decide +kernel) (by decide +kernel)
set_option maxRecDepth 20000 in
theorem gX6_findAll_X6_markAllAbove : GoodIn wsX6_findAll (wsV RX6 26 RX6 yX6_markAllAbove wsX6_markAllAbove) := goodIn_app (goodIn_of _ (by decide +kernel)) ggX6_findAll_X6_markAllAbove
theorem dX6_findAll_0 : decode cX6_findAll 0 = .ok (.aload_n 0, 1) := by decide +kernel
theorem dX6_findAll_1 : decode cX6_findAll 1 = .ok (.getfield 22, 3) := by decide +kernel
theorem dX6_findAll_4 : decode cX6_findAll 4 = .ok (.ifCond .eq 4, 3) := by decide +kernel
theorem dX6_findAll_7 : decode cX6_findAll 7 = .ok (.return_, 1) := by decide +kernel
theorem dX6_findAll_8 : decode cX6_findAll 8 = .ok (.aload_n 0, 1) := by decide +kernel
theorem dX6_findAll_9 : decode cX6_findAll 9 = .ok (.iconst 1, 1) := by decide +kernel
theorem dX6_findAll_10 : decode cX6_findAll 10 = .ok (.putfield 22, 3) := by decide +kernel
theorem dX6_findAll_13 : decode cX6_findAll 13 = .ok (.iconst 0, 1) := by decide +kernel
theorem dX6_findAll_14 : decode cX6_findAll 14 = .ok (.istore_n 1, 1) := by decide +kernel
theorem dX6_findAll_15 : decode cX6_findAll 15 = .ok (.iload_n 1, 1) := by decide +kernel
theorem dX6_findAll_16 : decode cX6_findAll 16 = .ok (.sipush 999, 3) := by decide +kernel
theorem dX6_findAll_19 : decode cX6_findAll 19 = .ok (.if_icmp .gt 22, 3) := by decide +kernel
theorem dX6_findAll_22 : decode cX6_findAll 22 = .ok (.aload_n 0, 1) := by decide +kernel
theorem dX6_findAll_23 : decode cX6_findAll 23 = .ok (.iload_n 1, 1) := by decide +kernel
theorem dX6_findAll_24 : decode cX6_findAll 24 = .ok (.invokevirtual 18, 3) := by decide +kernel
theorem dX6_findAll_27 : decode cX6_findAll 27 = .ok (.ifCond .ne 8, 3) := by decide +kernel
theorem dX6_findAll_30 : decode cX6_findAll 30 = .ok (.aload_n 0, 1) := by decide +kernel
theorem dX6_findAll_31 : decode cX6_findAll 31 = .ok (.iload_n 1, 1) := by decide +kernel
theorem dX6_findAll_32 : decode cX6_findAll 32 = .ok (.invokevirtual 26, 3) := by decide +kernel
theorem dX6_findAll_35 : decode cX6_findAll 35 = .ok (.iinc 1 1, 3) := by decide +kernel
theorem dX6_findAll_38 : decode cX6_findAll 38 = .ok (.goto (-23), 3) := by decide +kernel
theorem dX6_findAll_41 : decode cX6_findAll 41 = .ok (.return_, 1) := by decide +kernel
set_option maxRecDepth 20000 in
theorem ggX6_markAllAbove_X9_isWithin : GoodIn wsX6_markAllAbove wsX9_isWithin := goodIn_r _ [4] (by decide +kernel) (by decide +kernel)
set_option maxRecDepth 20000 in
theorem gX6_markAllAbove_X9_isWithin_n30 : GoodIn wsX6_markAllAbove (wsX9_isWithin) := ggX6_markAllAbove_X9_isWithin
theorem dX6_markAllAbove_0 : decode cX6_markAllAbove 0 = .ok (.iconst 1, 1) := by decide +kernel
theorem dX6_markAllAbove_1 : decode cX6_markAllAbove 1 = .ok (.istore_n 2, 1) := by decide +kernel
theorem dX6_markAllAbove_2 : decode cX6_markAllAbove 2 = .ok (.iload_n 2, 1) := by decide +kernel
theorem dX6_markAllAbove_3 : decode cX6_markAllAbove 3 = .ok (.bipush 31, 2) := by decide +kernel
theorem dX6_markAllAbove_5 : decode cX6_markAllAbove 5 = .ok (.if_icmp .gt 44, 3) := by decide +kernel
theorem dX6_markAllAbove_8 : decode cX6_markAllAbove 8 = .ok (.iload_n 1, 1) := by decide +kernel
theorem dX6_markAllAbove_9 : decode cX6_markAllAbove 9 = .ok (.iload_n 2, 1) := by decide +kernel
theorem dX6_markAllAbove_10 : decode cX6_markAllAbove 10 = .ok (.iload_n 2, 1) := by decide +kernel
theorem dX6_markAllAbove_11 : decode cX6_markAllAbove 11 = .ok (.imul, 1) := by decide +kernel
theorem dX6_markAllAbove_12 : decode cX6_markAllAbove 12 = .ok (.iadd, 1) := by decide +kernel
theorem dX6_markAllAbove_13 : decode cX6_markAllAbove 13 = .ok (.istore_n 3, 1) := by decide +kernel
theorem dX6_markAllAbove_14 : decode cX6_markAllAbove 14 = .ok (.iload_n 3, 1) := by decide +kernel
theorem dX6_markAllAbove_15 : decode cX6_markAllAbove 15 = .ok (.iconst 0, 1) := by decide +kernel
theorem dX6_markAllAbove_16 : decode cX6_markAllAbove 16 = .ok (.sipush 999, 3) := by decide +kernel
theorem dX6_markAllAbove_19 : decode cX6_markAllAbove 19 = .ok (.invokestatic 30, 3) := by decide +kernel
theorem dX6_markAllAbove_22 : decode cX6_markAllAbove 22 = .ok (.ifCond .eq 21, 3) := by decide +kernel
theorem dX6_markAllAbove_25 : decode cX6_markAllAbove 25 = .ok (.aload_n 0, 1) := by decide +kernel
theorem dX6_markAllAbove_26 : decode cX6_markAllAbove 26 = .ok (.getfield 11, 3) := by decide +kernel
theorem dX6_markAllAbove_29 : decode cX6_markAllAbove 29 = .ok (.iload_n 3, 1) := by decide +kernel
theorem dX6_markAllAbove_30 : decode cX6_markAllAbove 30 = .ok (.bipush 6, 2) := by decide +kernel
theorem dX6_markAllAbove_32 : decode cX6_markAllAbove 32 = .ok (.ishr, 1) := by decide +kernel
theorem dX6_markAllAbove_33 : decode cX6_markAllAbove 33 = .ok (.dup2, 1) := by decide +kernel
theorem dX6_markAllAbove_34 : decode cX6_markAllAbove 34 = .ok (.laload, 1) := by decide +kernel
theorem dX6_markAllAbove_35 : decode cX6_markAllAbove 35 = .ok (.lconst 1, 1) := by decide +kernel
theorem dX6_markAllAbove_36 : decode cX6_markAllAbove 36 = .ok (.iload_n 3, 1) := by decide +kernel
theorem dX6_markAllAbove_37 : decode cX6_markAllAbove 37 = .ok (.bipush 63, 2) := by decide +kernel
theorem dX6_markAllAbove_39 : decode cX6_markAllAbove 39 = .ok (.iand, 1) := by decide +kernel
theorem dX6_markAllAbove_40 : decode cX6_markAllAbove 40 = .ok (.lshl, 1) := by decide +kernel
theorem dX6_markAllAbove_41 : decode cX6_markAllAbove 41 = .ok (.lor, 1) := by decide +kernel
theorem dX6_markAllAbove_42 : decode cX6_markAllAbove 42 = .ok (.lastore, 1) := by decide +kernel
theorem dX6_markAllAbove_43 : decode cX6_markAllAbove 43 = .ok (.iinc 2 1, 3) := by decide +kernel
theorem dX6_markAllAbove_46 : decode cX6_markAllAbove 46 = .ok (.goto (-44), 3) := by decide +kernel
theorem dX6_markAllAbove_49 : decode cX6_markAllAbove 49 = .ok (.return_, 1) := by decide +kernel
set_option maxRecDepth 20000 in
theorem ggX6_isWonFrom_X9_isWithin : GoodIn wsX6_isWonFrom wsX9_isWithin := goodIn_r _ [4] (by decide +kernel) (by decide +kernel)
set_option maxRecDepth 20000 in
theorem gX6_isWonFrom_X9_isWithin_n30 : GoodIn wsX6_isWonFrom (wsX9_isWithin) := ggX6_isWonFrom_X9_isWithin
theorem dX6_isWonFrom_0 : decode cX6_isWonFrom 0 = .ok (.iload_n 1, 1) := by decide +kernel
theorem dX6_isWonFrom_1 : decode cX6_isWonFrom 1 = .ok (.iconst 0, 1) := by decide +kernel
theorem dX6_isWonFrom_2 : decode cX6_isWonFrom 2 = .ok (.sipush 999, 3) := by decide +kernel
theorem dX6_isWonFrom_5 : decode cX6_isWonFrom 5 = .ok (.invokestatic 30, 3) := by decide +kernel
theorem dX6_isWonFrom_8 : decode cX6_isWonFrom 8 = .ok (.ifCond .eq 28, 3) := by decide +kernel
theorem dX6_isWonFrom_11 : decode cX6_isWonFrom 11 = .ok (.aload_n 0, 1) := by decide +kernel
theorem dX6_isWonFrom_12 : decode cX6_isWonFrom 12 = .ok (.getfield 11, 3) := by decide +kernel
theorem dX6_isWonFrom_15 : decode cX6_isWonFrom 15 = .ok (.iload_n 1, 1) := by decide +kernel
theorem dX6_isWonFrom_16 : decode cX6_isWonFrom 16 = .ok (.bipush 6, 2) := by decide +kernel
theorem dX6_isWonFrom_18 : decode cX6_isWonFrom 18 = .ok (.ishr, 1) := by decide +kernel
theorem dX6_isWonFrom_19 : decode cX6_isWonFrom 19 = .ok (.laload, 1) := by decide +kernel
theorem dX6_isWonFrom_20 : decode cX6_isWonFrom 20 = .ok (.iload_n 1, 1) := by decide +kernel
theorem dX6_isWonFrom_21 : decode cX6_isWonFrom 21 = .ok (.bipush 63, 2) := by decide +kernel
theorem dX6_isWonFrom_23 : decode cX6_isWonFrom 23 = .ok (.iand, 1) := by decide +kernel
theorem dX6_isWonFrom_24 : decode cX6_isWonFrom 24 = .ok (.lshr, 1) := by decide +kernel
theorem dX6_isWonFrom_25 : decode cX6_isWonFrom 25 = .ok (.lconst 1, 1) := by decide +kernel
theorem dX6_isWonFrom_26 : decode cX6_isWonFrom 26 = .ok (.land, 1) := by decide +kernel
theorem dX6_isWonFrom_27 : decode cX6_isWonFrom 27 = .ok (.lconst 1, 1) := by decide +kernel
theorem dX6_isWonFrom_28 : decode cX6_isWonFrom 28 = .ok (.lcmp, 1) := by decide +kernel
theorem dX6_isWonFrom_29 : decode cX6_isWonFrom 29 = .ok (.ifCond .ne 7, 3) := by decide +kernel
theorem dX6_isWonFrom_32 : decode cX6_isWonFrom 32 = .ok (.iconst 1, 1) := by decide +kernel
theorem dX6_isWonFrom_33 : decode cX6_isWonFrom 33 = .ok (.goto 4, 3) := by decide +kernel
theorem dX6_isWonFrom_36 : decode cX6_isWonFrom 36 = .ok (.iconst 0, 1) := by decide +kernel
theorem dX6_isWonFrom_37 : decode cX6_isWonFrom 37 = .ok (.ireturn, 1) := by decide +kernel
theorem dX7_init_0 : decode cX7_init 0 = .ok (.aload_n 0, 1) := by decide +kernel
theorem dX7_init_1 : decode cX7_init 1 = .ok (.invokespecial 3, 3) := by decide +kernel
theorem dX7_init_4 : decode cX7_init 4 = .ok (.aload_n 0, 1) := by decide +kernel
theorem dX7_init_5 : decode cX7_init 5 = .ok (.ldc 11, 2) := by decide +kernel
theorem dX7_init_7 : decode cX7_init 7 = .ok (.putfield 12, 3) := by decide +kernel
theorem dX7_init_10 : decode cX7_init 10 = .ok (.aload_n 0, 1) := by decide +kernel
theorem dX7_init_11 : decode cX7_init 11 = .ok (.iconst 0, 1) := by decide +kernel
theorem dX7_init_12 : decode cX7_init 12 = .ok (.putfield 18, 3) := by decide +kernel
theorem dX7_init_15 : decode cX7_init 15 = .ok (.aload_n 0, 1) := by decide +kernel
theorem dX7_init_16 : decode cX7_init 16 = .ok (.iconst 0, 1) := by decide +kernel
theorem dX7_init_17 : decode cX7_init 17 = .ok (.putfield 21, 3) := by decide +kernel
theorem dX7_init_20 : decode cX7_init 20 = .ok (.aload_n 0, 1) := by decide +kernel
theorem dX7_init_21 : decode cX7_init 21 = .ok (.iconst 4, 1) := by decide +kernel
theorem dX7_init_22 : decode cX7_init 22 = .ok (.newarray .int, 2) := by decide +kernel
theorem dX7_init_24 : decode cX7_init 24 = .ok (.dup, 1) := by decide +kernel
theorem dX7_init_25 : decode cX7_init 25 = .ok (.iconst 0, 1) := by decide +kernel
theorem dX7_init_26 : decode cX7_init 26 = .ok (.iconst 5, 1) := by decide +kernel
theorem dX7_init_27 : decode cX7_init 27 = .ok (.iastore, 1) := by decide +kernel
theorem dX7_init_28 : decode cX7_init 28 = .ok (.dup, 1) := by decide +kernel
theorem dX7_init_29 : decode cX7_init 29 = .ok (.iconst 1, 1) := by decide +kernel
theorem dX7_init_30 : decode cX7_init 30 = .ok (.iconst 5, 1) := by decide +kernel
theorem dX7_init_31 : decode cX7_init 31 = .ok (.iastore, 1) := by decide +kernel
theorem dX7_init_32 : decode cX7_init 32 = .ok (.dup, 1) := by decide +kernel
theorem dX7_init_33 : decode cX7_init 33 = .ok (.iconst 2, 1) := by decide +kernel
theorem dX7_init_34 : decode cX7_init 34 = .ok (.iconst 5, 1) := by decide +kernel
theorem dX7_init_35 : decode cX7_init 35 = .ok (.iastore, 1) := by decide +kernel
theorem dX7_init_36 : decode cX7_init 36 = .ok (.dup, 1) := by decide +kernel
theorem dX7_init_37 : decode cX7_init 37 = .ok (.iconst 3, 1) := by decide +kernel
theorem dX7_init_38 : decode cX7_init 38 = .ok (.iconst 5, 1) := by decide +kernel
theorem dX7_init_39 : decode cX7_init 39 = .ok (.iastore, 1) := by decide +kernel
theorem dX7_init_40 : decode cX7_init 40 = .ok (.putfield 24, 3) := by decide +kernel
theorem dX7_init_43 : decode cX7_init 43 = .ok (.aload_n 0, 1) := by decide +kernel
theorem dX7_init_44 : decode cX7_init 44 = .ok (.iconst 4, 1) := by decide +kernel
theorem dX7_init_45 : decode cX7_init 45 = .ok (.newarray .int, 2) := by decide +kernel
theorem dX7_init_47 : decode cX7_init 47 = .ok (.dup, 1) := by decide +kernel
theorem dX7_init_48 : decode cX7_init 48 = .ok (.iconst 0, 1) := by decide +kernel
theorem dX7_init_49 : decode cX7_init 49 = .ok (.bipush 20, 2) := by decide +kernel
theorem dX7_init_51 : decode cX7_init 51 = .ok (.iastore, 1) := by decide +kernel
theorem dX7_init_52 : decode cX7_init 52 = .ok (.dup, 1) := by decide +kernel
theorem dX7_init_53 : decode cX7_init 53 = .ok (.iconst 1, 1) := by decide +kernel
theorem dX7_init_54 : decode cX7_init 54 = .ok (.bipush 20, 2) := by decide +kernel
theorem dX7_init_56 : decode cX7_init 56 = .ok (.iastore, 1) := by decide +kernel
theorem dX7_init_57 : decode cX7_init 57 = .ok (.dup, 1) := by decide +kernel
theorem dX7_init_58 : decode cX7_init 58 = .ok (.iconst 2, 1) := by decide +kernel
theorem dX7_init_59 : decode cX7_init 59 = .ok (.bipush 20, 2) := by decide +kernel
theorem dX7_init_61 : decode cX7_init 61 = .ok (.iastore, 1) := by decide +kernel
theorem dX7_init_62 : decode cX7_init 62 = .ok (.dup, 1) := by decide +kernel
theorem dX7_init_63 : decode cX7_init 63 = .ok (.iconst 3, 1) := by decide +kernel
theorem dX7_init_64 : decode cX7_init 64 = .ok (.bipush 20, 2) := by decide +kernel
theorem dX7_init_66 : decode cX7_init 66 = .ok (.iastore, 1) := by decide +kernel
theorem dX7_init_67 : decode cX7_init 67 = .ok (.putfield 28, 3) := by decide +kernel
theorem dX7_init_70 : decode cX7_init 70 = .ok (.aload_n 0, 1) := by decide +kernel
theorem dX7_init_71 : decode cX7_init 71 = .ok (.iconst 4, 1) := by decide +kernel
theorem dX7_init_72 : decode cX7_init 72 = .ok (.newarray .int, 2) := by decide +kernel
theorem dX7_init_74 : decode cX7_init 74 = .ok (.dup, 1) := by decide +kernel
theorem dX7_init_75 : decode cX7_init 75 = .ok (.iconst 0, 1) := by decide +kernel
theorem dX7_init_76 : decode cX7_init 76 = .ok (.bipush 63, 2) := by decide +kernel
theorem dX7_init_78 : decode cX7_init 78 = .ok (.iastore, 1) := by decide +kernel
theorem dX7_init_79 : decode cX7_init 79 = .ok (.dup, 1) := by decide +kernel
theorem dX7_init_80 : decode cX7_init 80 = .ok (.iconst 1, 1) := by decide +kernel
theorem dX7_init_81 : decode cX7_init 81 = .ok (.bipush 63, 2) := by decide +kernel
theorem dX7_init_83 : decode cX7_init 83 = .ok (.iastore, 1) := by decide +kernel
theorem dX7_init_84 : decode cX7_init 84 = .ok (.dup, 1) := by decide +kernel
theorem dX7_init_85 : decode cX7_init 85 = .ok (.iconst 2, 1) := by decide +kernel
theorem dX7_init_86 : decode cX7_init 86 = .ok (.bipush 63, 2) := by decide +kernel
theorem dX7_init_88 : decode cX7_init 88 = .ok (.iastore, 1) := by decide +kernel
theorem dX7_init_89 : decode cX7_init 89 = .ok (.dup, 1) := by decide +kernel
theorem dX7_init_90 : decode cX7_init 90 = .ok (.iconst 3, 1) := by decide +kernel
theorem dX7_init_91 : decode cX7_init 91 = .ok (.bipush 63, 2) := by decide +kernel
theorem dX7_init_93 : decode cX7_init 93 = .ok (.iastore, 1) := by decide +kernel
theorem dX7_init_94 : decode cX7_init 94 = .ok (.putfield 31, 3) := by decide +kernel
theorem dX7_init_97 : decode cX7_init 97 = .ok (.return_, 1) := by decide +kernel
theorem dX7_copyFrom_0 : decode cX7_copyFrom 0 = .ok (.aload_n 0, 1) := by decide +kernel
theorem dX7_copyFrom_1 : decode cX7_copyFrom 1 = .ok (.aload_n 1, 1) := by decide +kernel
theorem dX7_copyFrom_2 : decode cX7_copyFrom 2 = .ok (.getfield 12, 3) := by decide +kernel
theorem dX7_copyFrom_5 : decode cX7_copyFrom 5 = .ok (.putfield 12, 3) := by decide +kernel
theorem dX7_copyFrom_8 : decode cX7_copyFrom 8 = .ok (.aload_n 0, 1) := by decide +kernel
theorem dX7_copyFrom_9 : decode cX7_copyFrom 9 = .ok (.aload_n 1, 1) := by decide +kernel
theorem dX7_copyFrom_10 : decode cX7_copyFrom 10 = .ok (.getfield 18, 3) := by decide +kernel
theorem dX7_copyFrom_13 : decode cX7_copyFrom 13 = .ok (.putfield 18, 3) := by decide +kernel
theorem dX7_copyFrom_16 : decode cX7_copyFrom 16 = .ok (.aload_n 0, 1) := by decide +kernel
theorem dX7_copyFrom_17 : decode cX7_copyFrom 17 = .ok (.aload_n 1, 1) := by decide +kernel
theorem dX7_copyFrom_18 : decode cX7_copyFrom 18 = .ok (.getfield 21, 3) := by decide +kernel
theorem dX7_copyFrom_21 : decode cX7_copyFrom 21 = .ok (.putfield 21, 3) := by decide +kernel
theorem dX7_copyFrom_24 : decode cX7_copyFrom 24 = .ok (.iconst 0, 1) := by decide +kernel
theorem dX7_copyFrom_25 : decode cX7_copyFrom 25 = .ok (.istore_n 2, 1) := by decide +kernel
theorem dX7_copyFrom_26 : decode cX7_copyFrom 26 = .ok (.iload_n 2, 1) := by decide +kernel
theorem dX7_copyFrom_27 : decode cX7_copyFrom 27 = .ok (.iconst 4, 1) := by decide +kernel
theorem dX7_copyFrom_28 : decode cX7_copyFrom 28 = .ok (.if_icmp .ge 45, 3) := by decide +kernel
theorem dX7_copyFrom_31 : decode cX7_copyFrom 31 = .ok (.aload_n 0, 1) := by decide +kernel
theorem dX7_copyFrom_32 : decode cX7_copyFrom 32 = .ok (.getfield 24, 3) := by decide +kernel
theorem dX7_copyFrom_35 : decode cX7_copyFrom 35 = .ok (.iload_n 2, 1) := by decide +kernel
theorem dX7_copyFrom_36 : decode cX7_copyFrom 36 = .ok (.aload_n 1, 1) := by decide +kernel
theorem dX7_copyFrom_37 : decode cX7_copyFrom 37 = .ok (.getfield 24, 3) := by decide +kernel
theorem dX7_copyFrom_40 : decode cX7_copyFrom 40 = .ok (.iload_n 2, 1) := by decide +kernel
theorem dX7_copyFrom_41 : decode cX7_copyFrom 41 = .ok (.iaload, 1) := by decide +kernel
theorem dX7_copyFrom_42 : decode cX7_copyFrom 42 = .ok (.iastore, 1) := by decide +kernel
theorem dX7_copyFrom_43 : decode cX7_copyFrom 43 = .ok (.aload_n 0, 1) := by decide +kernel
theorem dX7_copyFrom_44 : decode cX7_copyFrom 44 = .ok (.getfield 28, 3) := by decide +kernel
theorem dX7_copyFrom_47 : decode cX7_copyFrom 47 = .ok (.iload_n 2, 1) := by decide +kernel
theorem dX7_copyFrom_48 : decode cX7_copyFrom 48 = .ok (.aload_n 1, 1) := by decide +kernel
theorem dX7_copyFrom_49 : decode cX7_copyFrom 49 = .ok (.getfield 28, 3) := by decide +kernel
theorem dX7_copyFrom_52 : decode cX7_copyFrom 52 = .ok (.iload_n 2, 1) := by decide +kernel
theorem dX7_copyFrom_53 : decode cX7_copyFrom 53 = .ok (.iaload, 1) := by decide +kernel
theorem dX7_copyFrom_54 : decode cX7_copyFrom 54 = .ok (.iastore, 1) := by decide +kernel
theorem dX7_copyFrom_55 : decode cX7_copyFrom 55 = .ok (.aload_n 0, 1) := by decide +kernel
theorem dX7_copyFrom_56 : decode cX7_copyFrom 56 = .ok (.getfield 31, 3) := by decide +kernel
theorem dX7_copyFrom_59 : decode cX7_copyFrom 59 = .ok (.iload_n 2, 1) := by decide +kernel
theorem dX7_copyFrom_60 : decode cX7_copyFrom 60 = .ok (.aload_n 1, 1) := by decide +kernel
theorem dX7_copyFrom_61 : decode cX7_copyFrom 61 = .ok (.getfield 31, 3) := by decide +kernel
theorem dX7_copyFrom_64 : decode cX7_copyFrom 64 = .ok (.iload_n 2, 1) := by decide +kernel
theorem dX7_copyFrom_65 : decode cX7_copyFrom 65 = .ok (.iaload, 1) := by decide +kernel
theorem dX7_copyFrom_66 : decode cX7_copyFrom 66 = .ok (.iastore, 1) := by decide +kernel
theorem dX7_copyFrom_67 : decode cX7_copyFrom 67 = .ok (.iinc 2 1, 3) := by decide +kernel
theorem dX7_copyFrom_70 : decode cX7_copyFrom 70 = .ok (.goto (-44), 3) := by decide +kernel
theorem dX7_copyFrom_73 : decode cX7_copyFrom 73 = .ok (.return_, 1) := by decide +kernel
set_option maxRecDepth 20000 in
theorem ggX7_setWatcher_X9_isWatcher : GoodIn wsX7_setWatcher wsX9_isWatcher := goodIn_r _ [6] (by decide +kernel) (by decide +kernel)
set_option maxRecDepth 20000 in
theorem gX7_setWatcher_X9_isWatcher_n34 : GoodIn wsX7_setWatcher (wsX9_isWatcher) := ggX7_setWatcher_X9_isWatcher
theorem dX7_setWatcher_0 : decode cX7_setWatcher 0 = .ok (.iload_n 1, 1) := by decide +kernel
theorem dX7_setWatcher_1 : decode cX7_setWatcher 1 = .ok (.invokestatic 34, 3) := by decide +kernel
theorem dX7_setWatcher_4 : decode cX7_setWatcher 4 = .ok (.ifCond .eq 25, 3) := by decide +kernel
theorem dX7_setWatcher_7 : decode cX7_setWatcher 7 = .ok (.aload_n 0, 1) := by decide +kernel
theorem dX7_setWatcher_8 : decode cX7_setWatcher 8 = .ok (.getfield 24, 3) := by decide +kernel
theorem dX7_setWatcher_11 : decode cX7_setWatcher 11 = .ok (.iload_n 1, 1) := by decide +kernel
theorem dX7_setWatcher_12 : decode cX7_setWatcher 12 = .ok (.iload_n 2, 1) := by decide +kernel
theorem dX7_setWatcher_13 : decode cX7_setWatcher 13 = .ok (.iastore, 1) := by decide +kernel
theorem dX7_setWatcher_14 : decode cX7_setWatcher 14 = .ok (.aload_n 0, 1) := by decide +kernel
theorem dX7_setWatcher_15 : decode cX7_setWatcher 15 = .ok (.getfield 28, 3) := by decide +kernel
theorem dX7_setWatcher_18 : decode cX7_setWatcher 18 = .ok (.iload_n 1, 1) := by decide +kernel
theorem dX7_setWatcher_19 : decode cX7_setWatcher 19 = .ok (.iload_n 3, 1) := by decide +kernel
theorem dX7_setWatcher_20 : decode cX7_setWatcher 20 = .ok (.iastore, 1) := by decide +kernel
theorem dX7_setWatcher_21 : decode cX7_setWatcher 21 = .ok (.aload_n 0, 1) := by decide +kernel
theorem dX7_setWatcher_22 : decode cX7_setWatcher 22 = .ok (.getfield 31, 3) := by decide +kernel
theorem dX7_setWatcher_25 : decode cX7_setWatcher 25 = .ok (.iload_n 1, 1) := by decide +kernel
theorem dX7_setWatcher_26 : decode cX7_setWatcher 26 = .ok (.iload 4, 2) := by decide +kernel
theorem dX7_setWatcher_28 : decode cX7_setWatcher 28 = .ok (.iastore, 1) := by decide +kernel
theorem dX7_setWatcher_29 : decode cX7_setWatcher 29 = .ok (.return_, 1) := by decide +kernel
set_option maxRecDepth 20000 in
theorem ggX7_eyesOf_X9_isWatcher : GoodIn wsX7_eyesOf wsX9_isWatcher := goodIn_r _ [4] (by decide +kernel) (by decide +kernel)
set_option maxRecDepth 20000 in
theorem gX7_eyesOf_X9_isWatcher_n34 : GoodIn wsX7_eyesOf (wsX9_isWatcher) := ggX7_eyesOf_X9_isWatcher
theorem dX7_eyesOf_0 : decode cX7_eyesOf 0 = .ok (.iload_n 1, 1) := by decide +kernel
theorem dX7_eyesOf_1 : decode cX7_eyesOf 1 = .ok (.invokestatic 34, 3) := by decide +kernel
theorem dX7_eyesOf_4 : decode cX7_eyesOf 4 = .ok (.ifCond .eq 12, 3) := by decide +kernel
theorem dX7_eyesOf_7 : decode cX7_eyesOf 7 = .ok (.aload_n 0, 1) := by decide +kernel
theorem dX7_eyesOf_8 : decode cX7_eyesOf 8 = .ok (.getfield 24, 3) := by decide +kernel
theorem dX7_eyesOf_11 : decode cX7_eyesOf 11 = .ok (.iload_n 1, 1) := by decide +kernel
theorem dX7_eyesOf_12 : decode cX7_eyesOf 12 = .ok (.iaload, 1) := by decide +kernel
theorem dX7_eyesOf_13 : decode cX7_eyesOf 13 = .ok (.goto 4, 3) := by decide +kernel
theorem dX7_eyesOf_16 : decode cX7_eyesOf 16 = .ok (.iconst 0, 1) := by decide +kernel
theorem dX7_eyesOf_17 : decode cX7_eyesOf 17 = .ok (.ireturn, 1) := by decide +kernel
set_option maxRecDepth 20000 in
theorem ggX7_coinOf_X9_isWatcher : GoodIn wsX7_coinOf wsX9_isWatcher := goodIn_r _ [4] (by decide +kernel) (by decide +kernel)
set_option maxRecDepth 20000 in
theorem gX7_coinOf_X9_isWatcher_n34 : GoodIn wsX7_coinOf (wsX9_isWatcher) := ggX7_coinOf_X9_isWatcher
theorem dX7_coinOf_0 : decode cX7_coinOf 0 = .ok (.iload_n 1, 1) := by decide +kernel
theorem dX7_coinOf_1 : decode cX7_coinOf 1 = .ok (.invokestatic 34, 3) := by decide +kernel
theorem dX7_coinOf_4 : decode cX7_coinOf 4 = .ok (.ifCond .eq 12, 3) := by decide +kernel
theorem dX7_coinOf_7 : decode cX7_coinOf 7 = .ok (.aload_n 0, 1) := by decide +kernel
theorem dX7_coinOf_8 : decode cX7_coinOf 8 = .ok (.getfield 28, 3) := by decide +kernel
theorem dX7_coinOf_11 : decode cX7_coinOf 11 = .ok (.iload_n 1, 1) := by decide +kernel
theorem dX7_coinOf_12 : decode cX7_coinOf 12 = .ok (.iaload, 1) := by decide +kernel
theorem dX7_coinOf_13 : decode cX7_coinOf 13 = .ok (.goto 4, 3) := by decide +kernel
theorem dX7_coinOf_16 : decode cX7_coinOf 16 = .ok (.iconst 0, 1) := by decide +kernel
theorem dX7_coinOf_17 : decode cX7_coinOf 17 = .ok (.ireturn, 1) := by decide +kernel
set_option maxRecDepth 20000 in
theorem ggX7_thinksOf_X9_isWatcher : GoodIn wsX7_thinksOf wsX9_isWatcher := goodIn_r _ [4] (by decide +kernel) (by decide +kernel)
set_option maxRecDepth 20000 in
theorem gX7_thinksOf_X9_isWatcher_n34 : GoodIn wsX7_thinksOf (wsX9_isWatcher) := ggX7_thinksOf_X9_isWatcher
theorem dX7_thinksOf_0 : decode cX7_thinksOf 0 = .ok (.iload_n 1, 1) := by decide +kernel
theorem dX7_thinksOf_1 : decode cX7_thinksOf 1 = .ok (.invokestatic 34, 3) := by decide +kernel
theorem dX7_thinksOf_4 : decode cX7_thinksOf 4 = .ok (.ifCond .eq 12, 3) := by decide +kernel
theorem dX7_thinksOf_7 : decode cX7_thinksOf 7 = .ok (.aload_n 0, 1) := by decide +kernel
theorem dX7_thinksOf_8 : decode cX7_thinksOf 8 = .ok (.getfield 31, 3) := by decide +kernel
theorem dX7_thinksOf_11 : decode cX7_thinksOf 11 = .ok (.iload_n 1, 1) := by decide +kernel
theorem dX7_thinksOf_12 : decode cX7_thinksOf 12 = .ok (.iaload, 1) := by decide +kernel
theorem dX7_thinksOf_13 : decode cX7_thinksOf 13 = .ok (.goto 4, 3) := by decide +kernel
theorem dX7_thinksOf_16 : decode cX7_thinksOf 16 = .ok (.iconst 0, 1) := by decide +kernel
theorem dX7_thinksOf_17 : decode cX7_thinksOf 17 = .ok (.ireturn, 1) := by decide +kernel
set_option maxRecDepth 20000 in
theorem ggX7_peaPlace_X2_placeOf : GoodIn wsX7_peaPlace wsX2_placeOf := goodIn_r _ [6] (by decide +kernel) (by decide +kernel)
set_option maxRecDepth 20000 in
theorem gX7_peaPlace_X2_placeOf : GoodIn wsX7_peaPlace (va_wsS RX7 38 yX2_placeOf wsX2_placeOf) := goodIn_app (goodIn_of _ (by decide +kernel)) ggX7_peaPlace_X2_placeOf
theorem dX7_peaPlace_0 : decode cX7_peaPlace 0 = .ok (.aload_n 0, 1) := by decide +kernel
theorem dX7_peaPlace_1 : decode cX7_peaPlace 1 = .ok (.getfield 18, 3) := by decide +kernel
theorem dX7_peaPlace_4 : decode cX7_peaPlace 4 = .ok (.iconst (-1), 1) := by decide +kernel
theorem dX7_peaPlace_5 : decode cX7_peaPlace 5 = .ok (.if_icmp .ne 8, 3) := by decide +kernel
theorem dX7_peaPlace_8 : decode cX7_peaPlace 8 = .ok (.bipush (-6), 2) := by decide +kernel
theorem dX7_peaPlace_10 : decode cX7_peaPlace 10 = .ok (.goto 14, 3) := by decide +kernel
theorem dX7_peaPlace_13 : decode cX7_peaPlace 13 = .ok (.aload_n 0, 1) := by decide +kernel
theorem dX7_peaPlace_14 : decode cX7_peaPlace 14 = .ok (.getfield 12, 3) := by decide +kernel
theorem dX7_peaPlace_17 : decode cX7_peaPlace 17 = .ok (.aload_n 0, 1) := by decide +kernel
theorem dX7_peaPlace_18 : decode cX7_peaPlace 18 = .ok (.getfield 18, 3) := by decide +kernel
theorem dX7_peaPlace_21 : decode cX7_peaPlace 21 = .ok (.invokestatic 38, 3) := by decide +kernel
theorem dX7_peaPlace_24 : decode cX7_peaPlace 24 = .ok (.ireturn, 1) := by decide +kernel
theorem dX7_peaCupOrNone_0 : decode cX7_peaCupOrNone 0 = .ok (.aload_n 0, 1) := by decide +kernel
theorem dX7_peaCupOrNone_1 : decode cX7_peaCupOrNone 1 = .ok (.getfield 18, 3) := by decide +kernel
theorem dX7_peaCupOrNone_4 : decode cX7_peaCupOrNone 4 = .ok (.iconst (-1), 1) := by decide +kernel
theorem dX7_peaCupOrNone_5 : decode cX7_peaCupOrNone 5 = .ok (.if_icmp .ne 8, 3) := by decide +kernel
theorem dX7_peaCupOrNone_8 : decode cX7_peaCupOrNone 8 = .ok (.bipush (-6), 2) := by decide +kernel
theorem dX7_peaCupOrNone_10 : decode cX7_peaCupOrNone 10 = .ok (.goto 7, 3) := by decide +kernel
theorem dX7_peaCupOrNone_13 : decode cX7_peaCupOrNone 13 = .ok (.aload_n 0, 1) := by decide +kernel
theorem dX7_peaCupOrNone_14 : decode cX7_peaCupOrNone 14 = .ok (.getfield 18, 3) := by decide +kernel
theorem dX7_peaCupOrNone_17 : decode cX7_peaCupOrNone 17 = .ok (.ireturn, 1) := by decide +kernel
set_option maxRecDepth 20000 in
theorem ggX7_wrongWatchers_X7_peaPlace : GoodIn wsX7_wrongWatchers wsX7_peaPlace := goodIn_r _ [6, 7, 8, 9, 10, 11, 12, 13, 14, 15, 16, 17, 18] (by decide +kernel) (by decide +kernel)

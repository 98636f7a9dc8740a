set_option maxRecDepth 20000 in
theorem ggX7_carry_X7_isOff : GoodIn wsX7_carry wsX7_isOff := goodIn_r _ [6] (by decide +kernel) (by decide +kernel)
set_option maxRecDepth 20000 in
theorem gX7_carry_X7_isOff : GoodIn wsX7_carry (va_wsS RX7 66 yX7_isOff wsX7_isOff) := goodIn_app (goodIn_of _ (by decide +kernel)) ggX7_carry_X7_isOff
theorem dX7_carry_0 : decode cX7_carry 0 = .ok (.iload_n 1, 1) := by decide +kernel
theorem dX7_carry_1 : decode cX7_carry 1 = .ok (.iconst 0, 1) := by decide +kernel
theorem dX7_carry_2 : decode cX7_carry 2 = .ok (.bipush 99, 2) := by decide +kernel
theorem dX7_carry_4 : decode cX7_carry 4 = .ok (.invokestatic 66, 3) := by decide +kernel
theorem dX7_carry_7 : decode cX7_carry 7 = .ok (.ifCond .eq 6, 3) := by decide +kernel
theorem dX7_carry_10 : decode cX7_carry 10 = .ok (.bipush (-3), 2) := by decide +kernel
theorem dX7_carry_12 : decode cX7_carry 12 = .ok (.ireturn, 1) := by decide +kernel
theorem dX7_carry_13 : decode cX7_carry 13 = .ok (.aload_n 0, 1) := by decide +kernel
theorem dX7_carry_14 : decode cX7_carry 14 = .ok (.getfield 35, 3) := by decide +kernel
theorem dX7_carry_17 : decode cX7_carry 17 = .ok (.getfield 141, 3) := by decide +kernel
theorem dX7_carry_20 : decode cX7_carry 20 = .ok (.istore_n 2, 1) := by decide +kernel
theorem dX7_carry_21 : decode cX7_carry 21 = .ok (.aload_n 0, 1) := by decide +kernel
theorem dX7_carry_22 : decode cX7_carry 22 = .ok (.getfield 35, 3) := by decide +kernel
theorem dX7_carry_25 : decode cX7_carry 25 = .ok (.iload_n 1, 1) := by decide +kernel
theorem dX7_carry_26 : decode cX7_carry 26 = .ok (.putfield 141, 3) := by decide +kernel
theorem dX7_carry_29 : decode cX7_carry 29 = .ok (.iload_n 2, 1) := by decide +kernel
theorem dX7_carry_30 : decode cX7_carry 30 = .ok (.ireturn, 1) := by decide +kernel
set_option maxRecDepth 20000 in
theorem ggX7_judge_X7_isNoThing : GoodIn wsX7_judge wsX7_isNoThing := goodIn_r _ [6, 7, 8, 5, 9] (by decide +kernel) (by decide +kernel)
set_option maxRecDepth 20000 in
theorem gX7_judge_X7_isNoThing : GoodIn wsX7_judge (va_wsS RX7 127 yX7_isNoThing wsX7_isNoThing) := goodIn_app (goodIn_of _ (by decide +kernel)) ggX7_judge_X7_isNoThing
set_option maxRecDepth 20000 in
theorem ggX7_judge_X1_firstWrongStep : GoodIn wsX7_judge wsX1_firstWrongStep := goodIn_r _ [14, 15, 16, 17, 18, 13, 19, 20, 21, 22, 23, 24, 25, 26, 27, 28, 29, 30, 31, 32, 33, 34, 35, 36, 37, 38, 39, 40, 41, 42, 43, 44, 45, 46, 47, 48, 49, 50, 51, 52, 53, 54, 55, 56, 57, 58, 59, 69, 70, 71, 72, 73, 74, 75, 76, 77, 78, 79, 80] (by decide +kernel) (by decide +kernel)
set_option maxRecDepth 20000 in
theorem gX7_judge_X1_firstWrongStep : GoodIn wsX7_judge (wsV RX7 144 RX1 yX1_firstWrongStep wsX1_firstWrongStep) := goodIn_app (goodIn_of _ (by decide +kernel)) ggX7_judge_X1_firstWrongStep
theorem dX7_judge_0 : decode cX7_judge 0 = .ok (.iload_n 1, 1) := by decide +kernel
theorem dX7_judge_1 : decode cX7_judge 1 = .ok (.invokestatic 127, 3) := by decide +kernel
theorem dX7_judge_4 : decode cX7_judge 4 = .ok (.ifCond .eq 6, 3) := by decide +kernel
theorem dX7_judge_7 : decode cX7_judge 7 = .ok (.bipush (-2), 2) := by decide +kernel
theorem dX7_judge_9 : decode cX7_judge 9 = .ok (.ireturn, 1) := by decide +kernel
theorem dX7_judge_10 : decode cX7_judge 10 = .ok (.aload_n 0, 1) := by decide +kernel
theorem dX7_judge_11 : decode cX7_judge 11 = .ok (.getfield 44, 3) := by decide +kernel
theorem dX7_judge_14 : decode cX7_judge 14 = .ok (.aload_n 0, 1) := by decide +kernel
theorem dX7_judge_15 : decode cX7_judge 15 = .ok (.getfield 50, 3) := by decide +kernel
theorem dX7_judge_18 : decode cX7_judge 18 = .ok (.iload_n 1, 1) := by decide +kernel
theorem dX7_judge_19 : decode cX7_judge 19 = .ok (.aaload, 1) := by decide +kernel
theorem dX7_judge_20 : decode cX7_judge 20 = .ok (.iload_n 2, 1) := by decide +kernel
theorem dX7_judge_21 : decode cX7_judge 21 = .ok (.iload_n 3, 1) := by decide +kernel
theorem dX7_judge_22 : decode cX7_judge 22 = .ok (.invokevirtual 144, 3) := by decide +kernel
theorem dX7_judge_25 : decode cX7_judge 25 = .ok (.ireturn, 1) := by decide +kernel
set_option maxRecDepth 20000 in
theorem ggX7_told_X7_isNoThing : GoodIn wsX7_told wsX7_isNoThing := goodIn_r _ [6, 7, 8, 5, 9] (by decide +kernel) (by decide +kernel)
set_option maxRecDepth 20000 in
theorem gX7_told_X7_isNoThing : GoodIn wsX7_told (va_wsS RX7 127 yX7_isNoThing wsX7_isNoThing) := goodIn_app (goodIn_of _ (by decide +kernel)) ggX7_told_X7_isNoThing
set_option maxRecDepth 20000 in
theorem ggX7_told_X7_isOff : GoodIn wsX7_told wsX7_isOff := goodIn_r _ [9] (by decide +kernel) (by decide +kernel)
set_option maxRecDepth 20000 in
theorem gX7_told_X7_isOff : GoodIn wsX7_told (va_wsS RX7 66 yX7_isOff wsX7_isOff) := goodIn_app (goodIn_of _ (by decide +kernel)) ggX7_told_X7_isOff
set_option maxRecDepth 20000 in
theorem ggX7_told_X1_firstWrongStep : GoodIn wsX7_told wsX1_firstWrongStep := goodIn_r _ [14, 15, 16, 17, 18, 13, 19, 20, 21, 22, 23, 24, 25, 26, 27, 28, 29, 30, 31, 32, 33, 34, 35, 36, 37, 38, 39, 40, 41, 42, 43, 44, 45, 46, 47, 48, 49, 50, 51, 52, 53, 54, 55, 56, 57, 58, 59, 90, 91, 92, 93, 94, 95, 96, 97, 98, 99, 100, 101] (by decide +kernel) (by decide +kernel)
set_option maxRecDepth 20000 in
theorem gX7_told_X1_firstWrongStep : GoodIn wsX7_told (wsV RX7 144 RX1 yX1_firstWrongStep wsX1_firstWrongStep) := goodIn_app (goodIn_of _ (by decide +kernel)) ggX7_told_X1_firstWrongStep
set_option maxRecDepth 20000 in
theorem ggX7_told_X1_handsOfWay : GoodIn wsX7_told wsX1_handsOfWay := goodIn_r _ [63, 15, 16, 17, 18, 13, 19, 20, 21, 22, 23, 24, 25, 26, 27, 28, 29, 30, 31, 32, 33, 34, 35, 36, 37, 38, 39, 40, 41, 42, 43, 44, 45, 46, 47, 48, 49, 50, 51, 52, 53, 54, 55, 56, 57, 58, 59, 90, 91, 92, 93, 94, 95, 96, 97, 98, 99, 100, 101] (by decide +kernel) (by decide +kernel)
set_option maxRecDepth 20000 in
theorem gX7_told_X1_handsOfWay : GoodIn wsX7_told (wsV RX7 148 RX1 yX1_handsOfWay wsX1_handsOfWay) := goodIn_app (goodIn_of _ (by decide +kernel)) ggX7_told_X1_handsOfWay
set_option maxRecDepth 20000 in
theorem ggX7_told_X1_costOfWay : GoodIn wsX7_told wsX1_costOfWay := goodIn_r _ [67, 15, 68, 17, 18, 13, 19, 20, 21, 22, 23, 24, 25, 26, 27, 28, 69, 70, 71, 72, 73, 74, 75, 76, 77, 78, 79, 80, 90, 91, 92, 93, 94, 102, 103, 104] (by decide +kernel) (by decide +kernel)
set_option maxRecDepth 20000 in
theorem gX7_told_X1_costOfWay : GoodIn wsX7_told (wsV RX7 151 RX1 yX1_costOfWay wsX1_costOfWay) := goodIn_app (goodIn_of _ (by decide +kernel)) ggX7_told_X1_costOfWay
theorem dX7_told_0 : decode cX7_told 0 = .ok (.iload_n 1, 1) := by decide +kernel
theorem dX7_told_1 : decode cX7_told 1 = .ok (.invokestatic 127, 3) := by decide +kernel
theorem dX7_told_4 : decode cX7_told 4 = .ok (.ifCond .eq 6, 3) := by decide +kernel
theorem dX7_told_7 : decode cX7_told 7 = .ok (.bipush (-2), 2) := by decide +kernel
theorem dX7_told_9 : decode cX7_told 9 = .ok (.ireturn, 1) := by decide +kernel
theorem dX7_told_10 : decode cX7_told 10 = .ok (.iload 4, 2) := by decide +kernel
theorem dX7_told_12 : decode cX7_told 12 = .ok (.iconst 0, 1) := by decide +kernel
theorem dX7_told_13 : decode cX7_told 13 = .ok (.iconst 2, 1) := by decide +kernel
theorem dX7_told_14 : decode cX7_told 14 = .ok (.invokestatic 66, 3) := by decide +kernel
theorem dX7_told_17 : decode cX7_told 17 = .ok (.ifCond .eq 6, 3) := by decide +kernel
theorem dX7_told_20 : decode cX7_told 20 = .ok (.bipush (-3), 2) := by decide +kernel
theorem dX7_told_22 : decode cX7_told 22 = .ok (.ireturn, 1) := by decide +kernel
theorem dX7_told_23 : decode cX7_told 23 = .ok (.aload_n 0, 1) := by decide +kernel
theorem dX7_told_24 : decode cX7_told 24 = .ok (.getfield 44, 3) := by decide +kernel
theorem dX7_told_27 : decode cX7_told 27 = .ok (.aload_n 0, 1) := by decide +kernel
theorem dX7_told_28 : decode cX7_told 28 = .ok (.getfield 50, 3) := by decide +kernel
theorem dX7_told_31 : decode cX7_told 31 = .ok (.iload_n 1, 1) := by decide +kernel
theorem dX7_told_32 : decode cX7_told 32 = .ok (.aaload, 1) := by decide +kernel
theorem dX7_told_33 : decode cX7_told 33 = .ok (.iload_n 2, 1) := by decide +kernel
theorem dX7_told_34 : decode cX7_told 34 = .ok (.iload_n 3, 1) := by decide +kernel
theorem dX7_told_35 : decode cX7_told 35 = .ok (.invokevirtual 144, 3) := by decide +kernel
theorem dX7_told_38 : decode cX7_told 38 = .ok (.iconst (-1), 1) := by decide +kernel
theorem dX7_told_39 : decode cX7_told 39 = .ok (.if_icmp .eq 6, 3) := by decide +kernel
theorem dX7_told_42 : decode cX7_told 42 = .ok (.bipush (-4), 2) := by decide +kernel
theorem dX7_told_44 : decode cX7_told 44 = .ok (.ireturn, 1) := by decide +kernel
theorem dX7_told_45 : decode cX7_told 45 = .ok (.iload 4, 2) := by decide +kernel
theorem dX7_told_47 : decode cX7_told 47 = .ok (.iconst 2, 1) := by decide +kernel
theorem dX7_told_48 : decode cX7_told 48 = .ok (.if_icmp .ne 21, 3) := by decide +kernel
theorem dX7_told_51 : decode cX7_told 51 = .ok (.aload_n 0, 1) := by decide +kernel
theorem dX7_told_52 : decode cX7_told 52 = .ok (.getfield 44, 3) := by decide +kernel
theorem dX7_told_55 : decode cX7_told 55 = .ok (.aload_n 0, 1) := by decide +kernel
theorem dX7_told_56 : decode cX7_told 56 = .ok (.getfield 50, 3) := by decide +kernel
theorem dX7_told_59 : decode cX7_told 59 = .ok (.iload_n 1, 1) := by decide +kernel
theorem dX7_told_60 : decode cX7_told 60 = .ok (.aaload, 1) := by decide +kernel
theorem dX7_told_61 : decode cX7_told 61 = .ok (.iload_n 2, 1) := by decide +kernel
theorem dX7_told_62 : decode cX7_told 62 = .ok (.iload_n 3, 1) := by decide +kernel
theorem dX7_told_63 : decode cX7_told 63 = .ok (.invokevirtual 148, 3) := by decide +kernel
theorem dX7_told_66 : decode cX7_told 66 = .ok (.goto 20, 3) := by decide +kernel
theorem dX7_told_69 : decode cX7_told 69 = .ok (.aload_n 0, 1) := by decide +kernel
theorem dX7_told_70 : decode cX7_told 70 = .ok (.getfield 44, 3) := by decide +kernel
theorem dX7_told_73 : decode cX7_told 73 = .ok (.aload_n 0, 1) := by decide +kernel
theorem dX7_told_74 : decode cX7_told 74 = .ok (.getfield 50, 3) := by decide +kernel
theorem dX7_told_77 : decode cX7_told 77 = .ok (.iload_n 1, 1) := by decide +kernel
theorem dX7_told_78 : decode cX7_told 78 = .ok (.aaload, 1) := by decide +kernel
theorem dX7_told_79 : decode cX7_told 79 = .ok (.iload_n 2, 1) := by decide +kernel
theorem dX7_told_80 : decode cX7_told 80 = .ok (.iload_n 3, 1) := by decide +kernel
theorem dX7_told_81 : decode cX7_told 81 = .ok (.iload 4, 2) := by decide +kernel
theorem dX7_told_83 : decode cX7_told 83 = .ok (.invokevirtual 151, 3) := by decide +kernel
theorem dX7_told_86 : decode cX7_told 86 = .ok (.ireturn, 1) := by decide +kernel
set_option maxRecDepth 20000 in
theorem ggX7_can_X7_isNoThing : GoodIn wsX7_can wsX7_isNoThing := goodIn_r _ [6, 7, 8, 5, 9] (by decide +kernel) (by decide +kernel)
set_option maxRecDepth 20000 in
theorem gX7_can_X7_isNoThing : GoodIn wsX7_can (va_wsS RX7 127 yX7_isNoThing wsX7_isNoThing) := goodIn_app (goodIn_of _ (by decide +kernel)) ggX7_can_X7_isNoThing
set_option maxRecDepth 20000 in
theorem ggX7_can_X7_isNoSet : GoodIn wsX7_can wsX7_isNoSet := goodIn_r _ [12, 7, 8, 5, 9] (by decide +kernel) (by decide +kernel)
set_option maxRecDepth 20000 in
theorem gX7_can_X7_isNoSet : GoodIn wsX7_can (va_wsS RX7 155 yX7_isNoSet wsX7_isNoSet) := goodIn_app (goodIn_of _ (by decide +kernel)) ggX7_can_X7_isNoSet
set_option maxRecDepth 20000 in
theorem ggX7_can_X1_isMadeBy : GoodIn wsX7_can wsX1_isMadeBy := goodIn_r _ [17, 18, 19, 20, 16, 21, 22, 23, 24, 25, 26, 27, 28, 29, 30, 31, 32, 33, 34, 35, 36, 37, 38, 39, 40, 41, 42, 43, 44, 45, 46, 47, 48, 49, 50, 51, 52, 53, 54, 55, 56, 57, 58, 59, 60, 61, 62, 63, 64, 65, 75, 76, 77, 78, 79, 80, 81, 82, 83, 84, 85, 86] (by decide +kernel) (by decide +kernel)
set_option maxRecDepth 20000 in
theorem gX7_can_X1_isMadeBy : GoodIn wsX7_can (wsV RX7 158 RX1 yX1_isMadeBy wsX1_isMadeBy) := goodIn_app (goodIn_of _ (by decide +kernel)) ggX7_can_X1_isMadeBy
theorem dX7_can_0 : decode cX7_can 0 = .ok (.iload_n 1, 1) := by decide +kernel
theorem dX7_can_1 : decode cX7_can 1 = .ok (.invokestatic 127, 3) := by decide +kernel
theorem dX7_can_4 : decode cX7_can 4 = .ok (.ifCond .eq 6, 3) := by decide +kernel
theorem dX7_can_7 : decode cX7_can 7 = .ok (.bipush (-2), 2) := by decide +kernel
theorem dX7_can_9 : decode cX7_can 9 = .ok (.ireturn, 1) := by decide +kernel
theorem dX7_can_10 : decode cX7_can 10 = .ok (.iload_n 2, 1) := by decide +kernel
theorem dX7_can_11 : decode cX7_can 11 = .ok (.invokestatic 155, 3) := by decide +kernel
theorem dX7_can_14 : decode cX7_can 14 = .ok (.ifCond .eq 6, 3) := by decide +kernel
theorem dX7_can_17 : decode cX7_can 17 = .ok (.bipush (-3), 2) := by decide +kernel
theorem dX7_can_19 : decode cX7_can 19 = .ok (.ireturn, 1) := by decide +kernel
theorem dX7_can_20 : decode cX7_can 20 = .ok (.aload_n 0, 1) := by decide +kernel
theorem dX7_can_21 : decode cX7_can 21 = .ok (.getfield 44, 3) := by decide +kernel
theorem dX7_can_24 : decode cX7_can 24 = .ok (.aload_n 0, 1) := by decide +kernel
theorem dX7_can_25 : decode cX7_can 25 = .ok (.getfield 50, 3) := by decide +kernel
theorem dX7_can_28 : decode cX7_can 28 = .ok (.iload_n 1, 1) := by decide +kernel
theorem dX7_can_29 : decode cX7_can 29 = .ok (.aaload, 1) := by decide +kernel
theorem dX7_can_30 : decode cX7_can 30 = .ok (.iload_n 2, 1) := by decide +kernel
theorem dX7_can_31 : decode cX7_can 31 = .ok (.invokevirtual 158, 3) := by decide +kernel
theorem dX7_can_34 : decode cX7_can 34 = .ok (.ifCond .eq 7, 3) := by decide +kernel
theorem dX7_can_37 : decode cX7_can 37 = .ok (.iconst 1, 1) := by decide +kernel
theorem dX7_can_38 : decode cX7_can 38 = .ok (.goto 4, 3) := by decide +kernel
theorem dX7_can_41 : decode cX7_can 41 = .ok (.iconst 0, 1) := by decide +kernel
theorem dX7_can_42 : decode cX7_can 42 = .ok (.ireturn, 1) := by decide +kernel
set_option maxRecDepth 20000 in
theorem ggX7_fewest_X7_isNoThing : GoodIn wsX7_fewest wsX7_isNoThing := goodIn_r _ [6, 7, 8, 5, 9] (by decide +kernel) (by decide +kernel)
set_option maxRecDepth 20000 in
theorem gX7_fewest_X7_isNoThing : GoodIn wsX7_fewest (va_wsS RX7 127 yX7_isNoThing wsX7_isNoThing) := goodIn_app (goodIn_of _ (by decide +kernel)) ggX7_fewest_X7_isNoThing
set_option maxRecDepth 20000 in
theorem ggX7_fewest_X7_isOff : GoodIn wsX7_fewest wsX7_isOff := goodIn_r _ [9] (by decide +kernel) (by decide +kernel)
set_option maxRecDepth 20000 in
theorem gX7_fewest_X7_isOff : GoodIn wsX7_fewest (va_wsS RX7 66 yX7_isOff wsX7_isOff) := goodIn_app (goodIn_of _ (by decide +kernel)) ggX7_fewest_X7_isOff
set_option maxRecDepth 20000 in
theorem ggX7_fewest_X1_makers : GoodIn wsX7_fewest wsX1_makers := goodIn_r _ [14, 15, 16, 17, 18, 13, 19, 20, 21, 22, 23, 24, 25, 26, 27, 28, 29, 30, 31, 32, 33, 34, 35, 36, 37, 38, 39, 40, 41, 42, 43, 44, 45, 46, 47, 48, 49, 50, 51, 52, 53, 54, 55, 56, 57, 58, 78, 79, 80, 81, 82, 83, 84, 85, 86, 87, 88, 89] (by decide +kernel) (by decide +kernel)
set_option maxRecDepth 20000 in
theorem gX7_fewest_X1_makers : GoodIn wsX7_fewest (wsV RX7 162 RX1 yX1_makers wsX1_makers) := goodIn_app (goodIn_of _ (by decide +kernel)) ggX7_fewest_X1_makers
set_option maxRecDepth 20000 in
theorem ggX7_fewest_X1_leastSet : GoodIn wsX7_fewest wsX1_leastSet := goodIn_r _ [61, 62, 63, 48, 64, 65, 66, 67] (by decide +kernel) (by decide +kernel)
set_option maxRecDepth 20000 in
theorem gX7_fewest_X1_leastSet : GoodIn wsX7_fewest (va_wsS RX7 166 yX1_leastSet wsX1_leastSet) := goodIn_app (goodIn_of _ (by decide +kernel)) ggX7_fewest_X1_leastSet
set_option maxRecDepth 20000 in
theorem ggX7_fewest_J6_bitCount_0f7a4 : GoodIn wsX7_fewest wsJ6_bitCount_0f7a4 := goodIn_r _ [64, 65, 66, 67] (by decide +kernel) (by decide +kernel)
set_option maxRecDepth 20000 in
theorem gX7_fewest_J6_bitCount_0f7a4 : GoodIn wsX7_fewest (va_wsS RX7 170 yJ6_bitCount_0f7a4 wsJ6_bitCount_0f7a4) := goodIn_app (goodIn_of _ (by decide +kernel)) ggX7_fewest_J6_bitCount_0f7a4
theorem dX7_fewest_0 : decode cX7_fewest 0 = .ok (.iload_n 1, 1) := by decide +kernel
theorem dX7_fewest_1 : decode cX7_fewest 1 = .ok (.invokestatic 127, 3) := by decide +kernel
theorem dX7_fewest_4 : decode cX7_fewest 4 = .ok (.ifCond .eq 6, 3) := by decide +kernel
theorem dX7_fewest_7 : decode cX7_fewest 7 = .ok (.bipush (-2), 2) := by decide +kernel
theorem dX7_fewest_9 : decode cX7_fewest 9 = .ok (.ireturn, 1) := by decide +kernel
theorem dX7_fewest_10 : decode cX7_fewest 10 = .ok (.iload_n 2, 1) := by decide +kernel
theorem dX7_fewest_11 : decode cX7_fewest 11 = .ok (.iconst 0, 1) := by decide +kernel
theorem dX7_fewest_12 : decode cX7_fewest 12 = .ok (.iconst 1, 1) := by decide +kernel
theorem dX7_fewest_13 : decode cX7_fewest 13 = .ok (.invokestatic 66, 3) := by decide +kernel
theorem dX7_fewest_16 : decode cX7_fewest 16 = .ok (.ifCond .eq 6, 3) := by decide +kernel
theorem dX7_fewest_19 : decode cX7_fewest 19 = .ok (.bipush (-3), 2) := by decide +kernel
theorem dX7_fewest_21 : decode cX7_fewest 21 = .ok (.ireturn, 1) := by decide +kernel
theorem dX7_fewest_22 : decode cX7_fewest 22 = .ok (.aload_n 0, 1) := by decide +kernel
theorem dX7_fewest_23 : decode cX7_fewest 23 = .ok (.getfield 44, 3) := by decide +kernel
theorem dX7_fewest_26 : decode cX7_fewest 26 = .ok (.aload_n 0, 1) := by decide +kernel
theorem dX7_fewest_27 : decode cX7_fewest 27 = .ok (.getfield 50, 3) := by decide +kernel
theorem dX7_fewest_30 : decode cX7_fewest 30 = .ok (.iload_n 1, 1) := by decide +kernel
theorem dX7_fewest_31 : decode cX7_fewest 31 = .ok (.aaload, 1) := by decide +kernel
theorem dX7_fewest_32 : decode cX7_fewest 32 = .ok (.invokevirtual 162, 3) := by decide +kernel
theorem dX7_fewest_35 : decode cX7_fewest 35 = .ok (.invokestatic 166, 3) := by decide +kernel
theorem dX7_fewest_38 : decode cX7_fewest 38 = .ok (.istore_n 3, 1) := by decide +kernel
theorem dX7_fewest_39 : decode cX7_fewest 39 = .ok (.iload_n 3, 1) := by decide +kernel
theorem dX7_fewest_40 : decode cX7_fewest 40 = .ok (.iconst (-1), 1) := by decide +kernel
theorem dX7_fewest_41 : decode cX7_fewest 41 = .ok (.if_icmp .eq 8, 3) := by decide +kernel
theorem dX7_fewest_44 : decode cX7_fewest 44 = .ok (.iload_n 2, 1) := by decide +kernel
theorem dX7_fewest_45 : decode cX7_fewest 45 = .ok (.iconst 1, 1) := by decide +kernel
theorem dX7_fewest_46 : decode cX7_fewest 46 = .ok (.if_icmp .ne 7, 3) := by decide +kernel
theorem dX7_fewest_49 : decode cX7_fewest 49 = .ok (.iload_n 3, 1) := by decide +kernel
theorem dX7_fewest_50 : decode cX7_fewest 50 = .ok (.goto 7, 3) := by decide +kernel
theorem dX7_fewest_53 : decode cX7_fewest 53 = .ok (.iload_n 3, 1) := by decide +kernel
theorem dX7_fewest_54 : decode cX7_fewest 54 = .ok (.invokestatic 170, 3) := by decide +kernel
theorem dX7_fewest_57 : decode cX7_fewest 57 = .ok (.ireturn, 1) := by decide +kernel
set_option maxRecDepth 20000 in
theorem ggX7_best_X7_isNoThing : GoodIn wsX7_best wsX7_isNoThing := goodIn_r _ [7, 8, 9, 6, 10] (by decide +kernel) (by decide +kernel)
set_option maxRecDepth 20000 in
theorem gX7_best_X7_isNoThing : GoodIn wsX7_best (va_wsS RX7 127 yX7_isNoThing wsX7_isNoThing) := goodIn_app (goodIn_of _ (by decide +kernel)) ggX7_best_X7_isNoThing
set_option maxRecDepth 20000 in
theorem ggX7_best_X7_isNoSet : GoodIn wsX7_best wsX7_isNoSet := goodIn_r _ [13, 8, 9, 6, 10] (by decide +kernel) (by decide +kernel)
set_option maxRecDepth 20000 in
theorem gX7_best_X7_isNoSet : GoodIn wsX7_best (va_wsS RX7 155 yX7_isNoSet wsX7_isNoSet) := goodIn_app (goodIn_of _ (by decide +kernel)) ggX7_best_X7_isNoSet
set_option maxRecDepth 20000 in
theorem ggX7_best_X7_isOff : GoodIn wsX7_best wsX7_isOff := goodIn_r _ [10] (by decide +kernel) (by decide +kernel)
set_option maxRecDepth 20000 in
theorem gX7_best_X7_isOff : GoodIn wsX7_best (va_wsS RX7 66 yX7_isOff wsX7_isOff) := goodIn_app (goodIn_of _ (by decide +kernel)) ggX7_best_X7_isOff
set_option maxRecDepth 20000 in
theorem ggX7_best_X1_reckon : GoodIn wsX7_best wsX1_reckon := goodIn_r _ [18, 19, 20, 21, 22, 23, 24, 25, 26, 27, 28, 29, 30, 31, 32, 33, 34, 35, 36, 37, 38, 39, 17, 40, 41, 42, 43, 44, 45, 46, 47, 48, 49, 50, 51, 52, 53, 54, 55, 56, 57, 58, 59, 60, 61, 62, 63, 64, 65, 66, 67, 68, 69, 70, 71, 72, 73, 74, 75, 76, 77, 78, 79, 80, 81, 82, 83, 84, 85, 86, 87, 88, 98, 99, 100, 101, 102, 103, 104, 105, 106, 107, 108, 109, 110, 111, 112] (by decide +kernel) (by decide +kernel)
set_option maxRecDepth 20000 in
theorem gX7_best_X1_reckon : GoodIn wsX7_best (wsV RX7 175 RX1 yX1_reckon wsX1_reckon) := goodIn_app (goodIn_of _ (by decide +kernel)) ggX7_best_X1_reckon
theorem dX7_best_0 : decode cX7_best 0 = .ok (.iload_n 1, 1) := by decide +kernel
theorem dX7_best_1 : decode cX7_best 1 = .ok (.invokestatic 127, 3) := by decide +kernel
theorem dX7_best_4 : decode cX7_best 4 = .ok (.ifCond .eq 6, 3) := by decide +kernel
theorem dX7_best_7 : decode cX7_best 7 = .ok (.bipush (-2), 2) := by decide +kernel
theorem dX7_best_9 : decode cX7_best 9 = .ok (.ireturn, 1) := by decide +kernel
theorem dX7_best_10 : decode cX7_best 10 = .ok (.iload_n 2, 1) := by decide +kernel
theorem dX7_best_11 : decode cX7_best 11 = .ok (.invokestatic 155, 3) := by decide +kernel
theorem dX7_best_14 : decode cX7_best 14 = .ok (.ifCond .ne 12, 3) := by decide +kernel
theorem dX7_best_17 : decode cX7_best 17 = .ok (.iload_n 3, 1) := by decide +kernel
theorem dX7_best_18 : decode cX7_best 18 = .ok (.iconst 0, 1) := by decide +kernel
theorem dX7_best_19 : decode cX7_best 19 = .ok (.iconst 1, 1) := by decide +kernel
theorem dX7_best_20 : decode cX7_best 20 = .ok (.invokestatic 66, 3) := by decide +kernel
theorem dX7_best_23 : decode cX7_best 23 = .ok (.ifCond .eq 6, 3) := by decide +kernel
theorem dX7_best_26 : decode cX7_best 26 = .ok (.bipush (-3), 2) := by decide +kernel
theorem dX7_best_28 : decode cX7_best 28 = .ok (.ireturn, 1) := by decide +kernel
theorem dX7_best_29 : decode cX7_best 29 = .ok (.aload_n 0, 1) := by decide +kernel
theorem dX7_best_30 : decode cX7_best 30 = .ok (.getfield 44, 3) := by decide +kernel
theorem dX7_best_33 : decode cX7_best 33 = .ok (.aload_n 0, 1) := by decide +kernel
theorem dX7_best_34 : decode cX7_best 34 = .ok (.getfield 50, 3) := by decide +kernel
theorem dX7_best_37 : decode cX7_best 37 = .ok (.iload_n 1, 1) := by decide +kernel
theorem dX7_best_38 : decode cX7_best 38 = .ok (.aaload, 1) := by decide +kernel
theorem dX7_best_39 : decode cX7_best 39 = .ok (.iload_n 2, 1) := by decide +kernel
theorem dX7_best_40 : decode cX7_best 40 = .ok (.iload_n 3, 1) := by decide +kernel
theorem dX7_best_41 : decode cX7_best 41 = .ok (.invokevirtual 175, 3) := by decide +kernel
theorem dX7_best_44 : decode cX7_best 44 = .ok (.istore 4, 2) := by decide +kernel
theorem dX7_best_46 : decode cX7_best 46 = .ok (.iload 4, 2) := by decide +kernel
theorem dX7_best_48 : decode cX7_best 48 = .ok (.ldc 178, 2) := by decide +kernel
theorem dX7_best_50 : decode cX7_best 50 = .ok (.if_icmp .ne 7, 3) := by decide +kernel
theorem dX7_best_53 : decode cX7_best 53 = .ok (.iconst (-1), 1) := by decide +kernel
theorem dX7_best_54 : decode cX7_best 54 = .ok (.goto 5, 3) := by decide +kernel
theorem dX7_best_57 : decode cX7_best 57 = .ok (.iload 4, 2) := by decide +kernel
theorem dX7_best_59 : decode cX7_best 59 = .ok (.ireturn, 1) := by decide +kernel
set_option maxRecDepth 20000 in
theorem ggX7_way_X7_isNoThing : GoodIn wsX7_way wsX7_isNoThing := goodIn_r _ [8, 9, 10, 7, 11] (by decide +kernel) (by decide +kernel)
set_option maxRecDepth 20000 in
theorem gX7_way_X7_isNoThing : GoodIn wsX7_way (va_wsS RX7 127 yX7_isNoThing wsX7_isNoThing) := goodIn_app (goodIn_of _ (by decide +kernel)) ggX7_way_X7_isNoThing
set_option maxRecDepth 20000 in
theorem ggX7_way_X7_isNoSet : GoodIn wsX7_way wsX7_isNoSet := goodIn_r _ [14, 9, 10, 7, 11] (by decide +kernel) (by decide +kernel)
set_option maxRecDepth 20000 in
theorem gX7_way_X7_isNoSet : GoodIn wsX7_way (va_wsS RX7 155 yX7_isNoSet wsX7_isNoSet) := goodIn_app (goodIn_of _ (by decide +kernel)) ggX7_way_X7_isNoSet
set_option maxRecDepth 20000 in
theorem ggX7_way_X7_isOff : GoodIn wsX7_way wsX7_isOff := goodIn_r _ [11] (by decide +kernel) (by decide +kernel)
set_option maxRecDepth 20000 in
theorem gX7_way_X7_isOff : GoodIn wsX7_way (va_wsS RX7 66 yX7_isOff wsX7_isOff) := goodIn_app (goodIn_of _ (by decide +kernel)) ggX7_way_X7_isOff
set_option maxRecDepth 20000 in
theorem ggX7_way_X1_reckon : GoodIn wsX7_way wsX1_reckon := goodIn_r _ [19, 20, 21, 22, 23, 24, 25, 26, 27, 28, 29, 30, 31, 32, 33, 34, 35, 36, 37, 38, 39, 40, 18, 41, 42, 43, 44, 45, 46, 47, 48, 49, 50, 51, 52, 53, 54, 55, 56, 57, 58, 59, 60, 61, 62, 63, 64, 65, 66, 67, 68, 69, 70, 71, 72, 73, 74, 75, 76, 77, 78, 79, 80, 81, 82, 83, 84, 85, 86, 87, 88, 89, 114, 115, 116, 112, 113, 117, 118, 119, 120, 121, 122, 123, 124, 125, 126] (by decide +kernel) (by decide +kernel)
set_option maxRecDepth 20000 in
theorem gX7_way_X1_reckon : GoodIn wsX7_way (wsV RX7 175 RX1 yX1_reckon wsX1_reckon) := goodIn_app (goodIn_of _ (by decide +kernel)) ggX7_way_X1_reckon
set_option maxRecDepth 20000 in
theorem ggX7_way_X1_cheapestGuild : GoodIn wsX7_way wsX1_cheapestGuild := goodIn_r _ [93, 21, 94, 95, 96, 18, 97, 20, 98, 38, 39, 40, 41, 24, 25, 26, 27, 42, 43, 44, 45, 46, 47, 48, 49, 50, 51, 52, 23, 53, 54, 55, 56, 57, 58, 59, 60, 61, 62, 63, 64, 65, 66, 67, 68, 69, 70, 71, 72, 73, 74, 75, 76, 77, 78, 79, 80, 81, 82, 83, 84, 85, 86, 31, 87, 88, 89, 114, 115, 116, 117, 118, 119, 112, 113, 120, 121, 122, 123, 124, 125, 126] (by decide +kernel) (by decide +kernel)
set_option maxRecDepth 20000 in
theorem gX7_way_X1_cheapestGuild : GoodIn wsX7_way (wsV RX7 179 RX1 yX1_cheapestGuild wsX1_cheapestGuild) := goodIn_app (goodIn_of _ (by decide +kernel)) ggX7_way_X1_cheapestGuild
set_option maxRecDepth 20000 in
theorem ggX7_way_X1_cheapestChoice : GoodIn wsX7_way wsX1_cheapestChoice := goodIn_r _ [102, 42, 43, 44, 45, 46, 47, 48, 49, 50, 18, 51, 52, 23, 20, 53, 54, 55, 56, 57, 58, 59, 60, 61, 62, 63, 64, 65, 66, 67, 68, 69, 70, 71, 72, 73, 74, 75, 76, 77, 78, 79, 80, 81, 82, 83, 84, 85, 86, 31, 87, 88, 89, 112, 113, 114, 115, 116, 120, 121, 122, 123, 124, 125, 126, 117, 118, 119] (by decide +kernel) (by decide +kernel)
set_option maxRecDepth 20000 in
theorem gX7_way_X1_cheapestChoice : GoodIn wsX7_way (wsV RX7 182 RX1 yX1_cheapestChoice wsX1_cheapestChoice) := goodIn_app (goodIn_of _ (by decide +kernel)) ggX7_way_X1_cheapestChoice
theorem dX7_way_0 : decode cX7_way 0 = .ok (.iload_n 1, 1) := by decide +kernel
theorem dX7_way_1 : decode cX7_way 1 = .ok (.invokestatic 127, 3) := by decide +kernel
theorem dX7_way_4 : decode cX7_way 4 = .ok (.ifCond .eq 6, 3) := by decide +kernel
theorem dX7_way_7 : decode cX7_way 7 = .ok (.bipush (-2), 2) := by decide +kernel
theorem dX7_way_9 : decode cX7_way 9 = .ok (.ireturn, 1) := by decide +kernel
theorem dX7_way_10 : decode cX7_way 10 = .ok (.iload_n 2, 1) := by decide +kernel
theorem dX7_way_11 : decode cX7_way 11 = .ok (.invokestatic 155, 3) := by decide +kernel
theorem dX7_way_14 : decode cX7_way 14 = .ok (.ifCond .ne 17, 3) := by decide +kernel
theorem dX7_way_17 : decode cX7_way 17 = .ok (.iload_n 3, 1) := by decide +kernel
theorem dX7_way_18 : decode cX7_way 18 = .ok (.ifCond .lt 13, 3) := by decide +kernel
theorem dX7_way_21 : decode cX7_way 21 = .ok (.iload 4, 2) := by decide +kernel
theorem dX7_way_23 : decode cX7_way 23 = .ok (.iconst 0, 1) := by decide +kernel
theorem dX7_way_24 : decode cX7_way 24 = .ok (.iconst 1, 1) := by decide +kernel
theorem dX7_way_25 : decode cX7_way 25 = .ok (.invokestatic 66, 3) := by decide +kernel
theorem dX7_way_28 : decode cX7_way 28 = .ok (.ifCond .eq 6, 3) := by decide +kernel
theorem dX7_way_31 : decode cX7_way 31 = .ok (.bipush (-3), 2) := by decide +kernel
theorem dX7_way_33 : decode cX7_way 33 = .ok (.ireturn, 1) := by decide +kernel
theorem dX7_way_34 : decode cX7_way 34 = .ok (.aload_n 0, 1) := by decide +kernel
theorem dX7_way_35 : decode cX7_way 35 = .ok (.getfield 44, 3) := by decide +kernel
theorem dX7_way_38 : decode cX7_way 38 = .ok (.aload_n 0, 1) := by decide +kernel
theorem dX7_way_39 : decode cX7_way 39 = .ok (.getfield 50, 3) := by decide +kernel
theorem dX7_way_42 : decode cX7_way 42 = .ok (.iload_n 1, 1) := by decide +kernel
theorem dX7_way_43 : decode cX7_way 43 = .ok (.aaload, 1) := by decide +kernel
theorem dX7_way_44 : decode cX7_way 44 = .ok (.iload_n 2, 1) := by decide +kernel
theorem dX7_way_45 : decode cX7_way 45 = .ok (.iconst 0, 1) := by decide +kernel
theorem dX7_way_46 : decode cX7_way 46 = .ok (.invokevirtual 175, 3) := by decide +kernel
theorem dX7_way_49 : decode cX7_way 49 = .ok (.istore 5, 2) := by decide +kernel
theorem dX7_way_51 : decode cX7_way 51 = .ok (.iload 5, 2) := by decide +kernel
theorem dX7_way_53 : decode cX7_way 53 = .ok (.ldc 178, 2) := by decide +kernel
theorem dX7_way_55 : decode cX7_way 55 = .ok (.if_icmp .eq 16, 3) := by decide +kernel
theorem dX7_way_58 : decode cX7_way 58 = .ok (.iload_n 3, 1) := by decide +kernel
theorem dX7_way_59 : decode cX7_way 59 = .ok (.aload_n 0, 1) := by decide +kernel
theorem dX7_way_60 : decode cX7_way 60 = .ok (.getfield 50, 3) := by decide +kernel
theorem dX7_way_63 : decode cX7_way 63 = .ok (.iload_n 1, 1) := by decide +kernel
theorem dX7_way_64 : decode cX7_way 64 = .ok (.aaload, 1) := by decide +kernel
theorem dX7_way_65 : decode cX7_way 65 = .ok (.getfield 130, 3) := by decide +kernel
theorem dX7_way_68 : decode cX7_way 68 = .ok (.if_icmp .lt 5, 3) := by decide +kernel
theorem dX7_way_71 : decode cX7_way 71 = .ok (.iconst (-1), 1) := by decide +kernel
theorem dX7_way_72 : decode cX7_way 72 = .ok (.ireturn, 1) := by decide +kernel
theorem dX7_way_73 : decode cX7_way 73 = .ok (.aload_n 0, 1) := by decide +kernel
theorem dX7_way_74 : decode cX7_way 74 = .ok (.getfield 44, 3) := by decide +kernel
theorem dX7_way_77 : decode cX7_way 77 = .ok (.aload_n 0, 1) := by decide +kernel
theorem dX7_way_78 : decode cX7_way 78 = .ok (.getfield 50, 3) := by decide +kernel
theorem dX7_way_81 : decode cX7_way 81 = .ok (.iload_n 1, 1) := by decide +kernel
theorem dX7_way_82 : decode cX7_way 82 = .ok (.aaload, 1) := by decide +kernel
theorem dX7_way_83 : decode cX7_way 83 = .ok (.iload_n 2, 1) := by decide +kernel
theorem dX7_way_84 : decode cX7_way 84 = .ok (.iload_n 3, 1) := by decide +kernel
theorem dX7_way_85 : decode cX7_way 85 = .ok (.iload 5, 2) := by decide +kernel
theorem dX7_way_87 : decode cX7_way 87 = .ok (.invokevirtual 179, 3) := by decide +kernel
theorem dX7_way_90 : decode cX7_way 90 = .ok (.istore 6, 2) := by decide +kernel
theorem dX7_way_92 : decode cX7_way 92 = .ok (.iload 6, 2) := by decide +kernel
theorem dX7_way_94 : decode cX7_way 94 = .ok (.iconst (-1), 1) := by decide +kernel
theorem dX7_way_95 : decode cX7_way 95 = .ok (.if_icmp .eq 8, 3) := by decide +kernel
theorem dX7_way_98 : decode cX7_way 98 = .ok (.iload 4, 2) := by decide +kernel
theorem dX7_way_100 : decode cX7_way 100 = .ok (.ifCond .ne 6, 3) := by decide +kernel
theorem dX7_way_103 : decode cX7_way 103 = .ok (.iload 6, 2) := by decide +kernel
theorem dX7_way_105 : decode cX7_way 105 = .ok (.ireturn, 1) := by decide +kernel
theorem dX7_way_106 : decode cX7_way 106 = .ok (.aload_n 0, 1) := by decide +kernel
theorem dX7_way_107 : decode cX7_way 107 = .ok (.getfield 44, 3) := by decide +kernel
theorem dX7_way_110 : decode cX7_way 110 = .ok (.aload_n 0, 1) := by decide +kernel
theorem dX7_way_111 : decode cX7_way 111 = .ok (.getfield 50, 3) := by decide +kernel
theorem dX7_way_114 : decode cX7_way 114 = .ok (.iload_n 1, 1) := by decide +kernel
theorem dX7_way_115 : decode cX7_way 115 = .ok (.aaload, 1) := by decide +kernel
theorem dX7_way_116 : decode cX7_way 116 = .ok (.iload_n 2, 1) := by decide +kernel
theorem dX7_way_117 : decode cX7_way 117 = .ok (.iload_n 3, 1) := by decide +kernel
theorem dX7_way_118 : decode cX7_way 118 = .ok (.iload 6, 2) := by decide +kernel
theorem dX7_way_120 : decode cX7_way 120 = .ok (.invokevirtual 182, 3) := by decide +kernel
theorem dX7_way_123 : decode cX7_way 123 = .ok (.ireturn, 1) := by decide +kernel
set_option maxRecDepth 20000 in
theorem ggX7_alone_X7_isNoGuild : GoodIn wsX7_alone wsX7_isNoGuild := goodIn_r _ [7, 8, 9, 6, 10] (by decide +kernel) (by decide +kernel)
set_option maxRecDepth 20000 in
theorem gX7_alone_X7_isNoGuild : GoodIn wsX7_alone (va_wsS RX7 106 yX7_isNoGuild wsX7_isNoGuild) := goodIn_app (goodIn_of _ (by decide +kernel)) ggX7_alone_X7_isNoGuild
set_option maxRecDepth 20000 in
theorem ggX7_alone_X1_isMadeBy : GoodIn wsX7_alone wsX1_isMadeBy := goodIn_r _ [15, 16, 17, 18, 14, 19, 20, 21, 22, 23, 24, 25, 26, 27, 28, 29, 30, 31, 32, 33, 34, 35, 36, 37, 38, 39, 40, 41, 42, 43, 44, 45, 46, 47, 48, 49, 50, 51, 52, 53, 54, 55, 56, 57, 58, 59, 60, 61, 62, 63, 73, 74, 75, 76, 77, 78, 79, 80, 81, 82, 83, 84] (by decide +kernel) (by decide +kernel)
set_option maxRecDepth 20000 in
theorem gX7_alone_X1_isMadeBy : GoodIn wsX7_alone (wsV RX7 158 RX1 yX1_isMadeBy wsX1_isMadeBy) := goodIn_app (goodIn_of _ (by decide +kernel)) ggX7_alone_X1_isMadeBy
theorem dX7_alone_0 : decode cX7_alone 0 = .ok (.iload_n 1, 1) := by decide +kernel
theorem dX7_alone_1 : decode cX7_alone 1 = .ok (.invokestatic 106, 3) := by decide +kernel
theorem dX7_alone_4 : decode cX7_alone 4 = .ok (.ifCond .eq 6, 3) := by decide +kernel
theorem dX7_alone_7 : decode cX7_alone 7 = .ok (.bipush (-2), 2) := by decide +kernel
theorem dX7_alone_9 : decode cX7_alone 9 = .ok (.ireturn, 1) := by decide +kernel
theorem dX7_alone_10 : decode cX7_alone 10 = .ok (.iconst 0, 1) := by decide +kernel
theorem dX7_alone_11 : decode cX7_alone 11 = .ok (.istore_n 2, 1) := by decide +kernel
theorem dX7_alone_12 : decode cX7_alone 12 = .ok (.iconst 0, 1) := by decide +kernel
theorem dX7_alone_13 : decode cX7_alone 13 = .ok (.istore_n 3, 1) := by decide +kernel
theorem dX7_alone_14 : decode cX7_alone 14 = .ok (.iload_n 3, 1) := by decide +kernel
theorem dX7_alone_15 : decode cX7_alone 15 = .ok (.bipush 6, 2) := by decide +kernel
theorem dX7_alone_17 : decode cX7_alone 17 = .ok (.if_icmp .ge 46, 3) := by decide +kernel
theorem dX7_alone_20 : decode cX7_alone 20 = .ok (.aload_n 0, 1) := by decide +kernel
theorem dX7_alone_21 : decode cX7_alone 21 = .ok (.getfield 50, 3) := by decide +kernel
theorem dX7_alone_24 : decode cX7_alone 24 = .ok (.iload_n 3, 1) := by decide +kernel
theorem dX7_alone_25 : decode cX7_alone 25 = .ok (.aaload, 1) := by decide +kernel
theorem dX7_alone_26 : decode cX7_alone 26 = .ok (.getfield 130, 3) := by decide +kernel
theorem dX7_alone_29 : decode cX7_alone 29 = .ok (.ifCond .le 28, 3) := by decide +kernel
theorem dX7_alone_32 : decode cX7_alone 32 = .ok (.aload_n 0, 1) := by decide +kernel
theorem dX7_alone_33 : decode cX7_alone 33 = .ok (.getfield 44, 3) := by decide +kernel
theorem dX7_alone_36 : decode cX7_alone 36 = .ok (.aload_n 0, 1) := by decide +kernel
theorem dX7_alone_37 : decode cX7_alone 37 = .ok (.getfield 50, 3) := by decide +kernel
theorem dX7_alone_40 : decode cX7_alone 40 = .ok (.iload_n 3, 1) := by decide +kernel
theorem dX7_alone_41 : decode cX7_alone 41 = .ok (.aaload, 1) := by decide +kernel
theorem dX7_alone_42 : decode cX7_alone 42 = .ok (.iconst 1, 1) := by decide +kernel
theorem dX7_alone_43 : decode cX7_alone 43 = .ok (.iload_n 1, 1) := by decide +kernel
theorem dX7_alone_44 : decode cX7_alone 44 = .ok (.ishl, 1) := by decide +kernel
theorem dX7_alone_45 : decode cX7_alone 45 = .ok (.invokevirtual 158, 3) := by decide +kernel
theorem dX7_alone_48 : decode cX7_alone 48 = .ok (.ifCond .eq 9, 3) := by decide +kernel
theorem dX7_alone_51 : decode cX7_alone 51 = .ok (.iload_n 2, 1) := by decide +kernel
theorem dX7_alone_52 : decode cX7_alone 52 = .ok (.iconst 1, 1) := by decide +kernel
theorem dX7_alone_53 : decode cX7_alone 53 = .ok (.iload_n 3, 1) := by decide +kernel
theorem dX7_alone_54 : decode cX7_alone 54 = .ok (.ishl, 1) := by decide +kernel
theorem dX7_alone_55 : decode cX7_alone 55 = .ok (.ior, 1) := by decide +kernel
theorem dX7_alone_56 : decode cX7_alone 56 = .ok (.istore_n 2, 1) := by decide +kernel
theorem dX7_alone_57 : decode cX7_alone 57 = .ok (.iinc 3 1, 3) := by decide +kernel
theorem dX7_alone_60 : decode cX7_alone 60 = .ok (.goto (-46), 3) := by decide +kernel
theorem dX7_alone_63 : decode cX7_alone 63 = .ok (.iload_n 2, 1) := by decide +kernel
theorem dX7_alone_64 : decode cX7_alone 64 = .ok (.ireturn, 1) := by decide +kernel
set_option maxRecDepth 20000 in
theorem ggX7_sly_X7_isNoThing : GoodIn wsX7_sly wsX7_isNoThing := goodIn_r _ [6, 7, 8, 5, 9] (by decide +kernel) (by decide +kernel)
set_option maxRecDepth 20000 in
theorem gX7_sly_X7_isNoThing : GoodIn wsX7_sly (va_wsS RX7 127 yX7_isNoThing wsX7_isNoThing) := goodIn_app (goodIn_of _ (by decide +kernel)) ggX7_sly_X7_isNoThing
set_option maxRecDepth 20000 in
theorem ggX7_sly_X7_isOff : GoodIn wsX7_sly wsX7_isOff := goodIn_r _ [9] (by decide +kernel) (by decide +kernel)
set_option maxRecDepth 20000 in
theorem gX7_sly_X7_isOff : GoodIn wsX7_sly (va_wsS RX7 66 yX7_isOff wsX7_isOff) := goodIn_app (goodIn_of _ (by decide +kernel)) ggX7_sly_X7_isOff
set_option maxRecDepth 20000 in
theorem ggX7_sly_X1_slyest : GoodIn wsX7_sly wsX1_slyest := goodIn_r _ [14, 15, 16, 17, 18, 19, 20, 21, 22, 23, 13, 24, 25, 26, 27, 28, 29, 30, 31, 32, 33, 34, 35, 36, 37, 38, 39, 40, 41, 42, 43, 44, 45, 46, 47, 48, 49, 50, 51, 52, 53, 54, 55, 56, 57, 58, 59, 60, 61, 62, 63, 64, 65, 66, 67, 68, 69, 70, 71, 72, 73, 74, 75, 76, 77, 78, 79, 80, 81, 82, 83, 84, 85, 86, 96, 97, 98, 99, 100, 101, 102, 103, 104, 105, 106, 107] (by decide +kernel) (by decide +kernel)
set_option maxRecDepth 20000 in
theorem gX7_sly_X1_slyest : GoodIn wsX7_sly (wsV RX7 185 RX1 yX1_slyest wsX1_slyest) := goodIn_app (goodIn_of _ (by decide +kernel)) ggX7_sly_X1_slyest
theorem dX7_sly_0 : decode cX7_sly 0 = .ok (.iload_n 1, 1) := by decide +kernel
theorem dX7_sly_1 : decode cX7_sly 1 = .ok (.invokestatic 127, 3) := by decide +kernel
theorem dX7_sly_4 : decode cX7_sly 4 = .ok (.ifCond .eq 6, 3) := by decide +kernel
theorem dX7_sly_7 : decode cX7_sly 7 = .ok (.bipush (-2), 2) := by decide +kernel
theorem dX7_sly_9 : decode cX7_sly 9 = .ok (.ireturn, 1) := by decide +kernel
theorem dX7_sly_10 : decode cX7_sly 10 = .ok (.iload_n 2, 1) := by decide +kernel
theorem dX7_sly_11 : decode cX7_sly 11 = .ok (.iconst 1, 1) := by decide +kernel
theorem dX7_sly_12 : decode cX7_sly 12 = .ok (.bipush 9, 2) := by decide +kernel
theorem dX7_sly_14 : decode cX7_sly 14 = .ok (.invokestatic 66, 3) := by decide +kernel
theorem dX7_sly_17 : decode cX7_sly 17 = .ok (.ifCond .ne 12, 3) := by decide +kernel
theorem dX7_sly_20 : decode cX7_sly 20 = .ok (.iload_n 3, 1) := by decide +kernel
theorem dX7_sly_21 : decode cX7_sly 21 = .ok (.iconst 0, 1) := by decide +kernel
theorem dX7_sly_22 : decode cX7_sly 22 = .ok (.iconst 1, 1) := by decide +kernel
theorem dX7_sly_23 : decode cX7_sly 23 = .ok (.invokestatic 66, 3) := by decide +kernel
theorem dX7_sly_26 : decode cX7_sly 26 = .ok (.ifCond .eq 6, 3) := by decide +kernel
theorem dX7_sly_29 : decode cX7_sly 29 = .ok (.bipush (-3), 2) := by decide +kernel
theorem dX7_sly_31 : decode cX7_sly 31 = .ok (.ireturn, 1) := by decide +kernel
theorem dX7_sly_32 : decode cX7_sly 32 = .ok (.aload_n 0, 1) := by decide +kernel
theorem dX7_sly_33 : decode cX7_sly 33 = .ok (.getfield 44, 3) := by decide +kernel
theorem dX7_sly_36 : decode cX7_sly 36 = .ok (.aload_n 0, 1) := by decide +kernel
theorem dX7_sly_37 : decode cX7_sly 37 = .ok (.getfield 50, 3) := by decide +kernel
theorem dX7_sly_40 : decode cX7_sly 40 = .ok (.iload_n 1, 1) := by decide +kernel
theorem dX7_sly_41 : decode cX7_sly 41 = .ok (.aaload, 1) := by decide +kernel
theorem dX7_sly_42 : decode cX7_sly 42 = .ok (.iload_n 2, 1) := by decide +kernel
theorem dX7_sly_43 : decode cX7_sly 43 = .ok (.invokevirtual 185, 3) := by decide +kernel
theorem dX7_sly_46 : decode cX7_sly 46 = .ok (.istore 4, 2) := by decide +kernel
theorem dX7_sly_48 : decode cX7_sly 48 = .ok (.iload 4, 2) := by decide +kernel
theorem dX7_sly_50 : decode cX7_sly 50 = .ok (.iconst (-1), 1) := by decide +kernel
theorem dX7_sly_51 : decode cX7_sly 51 = .ok (.if_icmp .ne 5, 3) := by decide +kernel
theorem dX7_sly_54 : decode cX7_sly 54 = .ok (.iconst (-1), 1) := by decide +kernel
theorem dX7_sly_55 : decode cX7_sly 55 = .ok (.ireturn, 1) := by decide +kernel
theorem dX7_sly_56 : decode cX7_sly 56 = .ok (.iload_n 3, 1) := by decide +kernel
theorem dX7_sly_57 : decode cX7_sly 57 = .ok (.ifCond .ne 12, 3) := by decide +kernel
theorem dX7_sly_60 : decode cX7_sly 60 = .ok (.iload 4, 2) := by decide +kernel
theorem dX7_sly_62 : decode cX7_sly 62 = .ok (.sipush 160, 3) := by decide +kernel
theorem dX7_sly_65 : decode cX7_sly 65 = .ok (.irem, 1) := by decide +kernel
theorem dX7_sly_66 : decode cX7_sly 66 = .ok (.goto 9, 3) := by decide +kernel
theorem dX7_sly_69 : decode cX7_sly 69 = .ok (.iload 4, 2) := by decide +kernel
theorem dX7_sly_71 : decode cX7_sly 71 = .ok (.sipush 160, 3) := by decide +kernel
theorem dX7_sly_74 : decode cX7_sly 74 = .ok (.idiv, 1) := by decide +kernel
theorem dX7_sly_75 : decode cX7_sly 75 = .ok (.ireturn, 1) := by decide +kernel
set_option maxRecDepth 20000 in
theorem ggX7_struck_X7_isNoThing : GoodIn wsX7_struck wsX7_isNoThing := goodIn_r _ [6, 7, 8, 5, 9] (by decide +kernel) (by decide +kernel)
set_option maxRecDepth 20000 in
theorem gX7_struck_X7_isNoThing : GoodIn wsX7_struck (va_wsS RX7 127 yX7_isNoThing wsX7_isNoThing) := goodIn_app (goodIn_of _ (by decide +kernel)) ggX7_struck_X7_isNoThing
set_option maxRecDepth 20000 in
theorem ggX7_struck_X7_isOff : GoodIn wsX7_struck wsX7_isOff := goodIn_r _ [9] (by decide +kernel) (by decide +kernel)
set_option maxRecDepth 20000 in
theorem gX7_struck_X7_isOff : GoodIn wsX7_struck (va_wsS RX7 66 yX7_isOff wsX7_isOff) := goodIn_app (goodIn_of _ (by decide +kernel)) ggX7_struck_X7_isOff
set_option maxRecDepth 20000 in
theorem ggX7_struck_X1_fewestStruck : GoodIn wsX7_struck wsX1_fewestStruck := goodIn_r _ [14, 15, 16, 17, 18, 19, 20, 21, 22, 23, 13, 24, 25, 26, 27, 28, 29, 30, 31, 32, 33, 34, 35, 36, 37, 38, 39, 40, 41, 42, 43, 44, 45, 46, 47, 48, 49, 50, 51, 52, 53, 54, 55, 56, 57, 58, 59, 60, 61, 62, 63, 64, 65, 66, 67, 68, 69, 70, 71, 72, 73, 74, 75, 76, 77, 78, 79, 89, 90, 91, 92, 93, 94, 95, 96, 97, 98, 99, 100] (by decide +kernel) (by decide +kernel)
set_option maxRecDepth 20000 in
theorem gX7_struck_X1_fewestStruck : GoodIn wsX7_struck (wsV RX7 189 RX1 yX1_fewestStruck wsX1_fewestStruck) := goodIn_app (goodIn_of _ (by decide +kernel)) ggX7_struck_X1_fewestStruck
theorem dX7_struck_0 : decode cX7_struck 0 = .ok (.iload_n 1, 1) := by decide +kernel
theorem dX7_struck_1 : decode cX7_struck 1 = .ok (.invokestatic 127, 3) := by decide +kernel
theorem dX7_struck_4 : decode cX7_struck 4 = .ok (.ifCond .eq 6, 3) := by decide +kernel
theorem dX7_struck_7 : decode cX7_struck 7 = .ok (.bipush (-2), 2) := by decide +kernel
theorem dX7_struck_9 : decode cX7_struck 9 = .ok (.ireturn, 1) := by decide +kernel
theorem dX7_struck_10 : decode cX7_struck 10 = .ok (.iload_n 2, 1) := by decide +kernel
theorem dX7_struck_11 : decode cX7_struck 11 = .ok (.iconst 0, 1) := by decide +kernel
theorem dX7_struck_12 : decode cX7_struck 12 = .ok (.bipush 6, 2) := by decide +kernel
theorem dX7_struck_14 : decode cX7_struck 14 = .ok (.invokestatic 66, 3) := by decide +kernel
theorem dX7_struck_17 : decode cX7_struck 17 = .ok (.ifCond .eq 6, 3) := by decide +kernel
theorem dX7_struck_20 : decode cX7_struck 20 = .ok (.bipush (-3), 2) := by decide +kernel
theorem dX7_struck_22 : decode cX7_struck 22 = .ok (.ireturn, 1) := by decide +kernel
theorem dX7_struck_23 : decode cX7_struck 23 = .ok (.aload_n 0, 1) := by decide +kernel
theorem dX7_struck_24 : decode cX7_struck 24 = .ok (.getfield 44, 3) := by decide +kernel
theorem dX7_struck_27 : decode cX7_struck 27 = .ok (.aload_n 0, 1) := by decide +kernel
theorem dX7_struck_28 : decode cX7_struck 28 = .ok (.getfield 50, 3) := by decide +kernel
theorem dX7_struck_31 : decode cX7_struck 31 = .ok (.iload_n 1, 1) := by decide +kernel
theorem dX7_struck_32 : decode cX7_struck 32 = .ok (.aaload, 1) := by decide +kernel
theorem dX7_struck_33 : decode cX7_struck 33 = .ok (.iload_n 2, 1) := by decide +kernel
theorem dX7_struck_34 : decode cX7_struck 34 = .ok (.invokevirtual 189, 3) := by decide +kernel
theorem dX7_struck_37 : decode cX7_struck 37 = .ok (.ireturn, 1) := by decide +kernel
set_option maxRecDepth 20000 in
theorem ggX7_takes_X7_isNoBound : GoodIn wsX7_takes wsX7_isNoBound := goodIn_r _ [6, 1, 7, 8, 9, 5, 10, 45, 46, 47, 48, 49, 50, 51, 52, 53, 54, 55, 56, 57, 58, 59, 60] (by decide +kernel) (by decide +kernel)
set_option maxRecDepth 20000 in
theorem gX7_takes_X7_isNoBound : GoodIn wsX7_takes (wsV RX7 94 RX7 yX7_isNoBound wsX7_isNoBound) := goodIn_app (goodIn_of _ (by decide +kernel)) ggX7_takes_X7_isNoBound
set_option maxRecDepth 20000 in
theorem ggX7_takes_X7_isNoGuild : GoodIn wsX7_takes wsX7_isNoGuild := goodIn_r _ [13, 8, 9, 5, 10] (by decide +kernel) (by decide +kernel)
set_option maxRecDepth 20000 in
theorem gX7_takes_X7_isNoGuild : GoodIn wsX7_takes (va_wsS RX7 106 yX7_isNoGuild wsX7_isNoGuild) := goodIn_app (goodIn_of _ (by decide +kernel)) ggX7_takes_X7_isNoGuild
set_option maxRecDepth 20000 in
theorem ggX7_takes_X7_isOff : GoodIn wsX7_takes wsX7_isOff := goodIn_r _ [10] (by decide +kernel) (by decide +kernel)
set_option maxRecDepth 20000 in
theorem gX7_takes_X7_isOff : GoodIn wsX7_takes (va_wsS RX7 66 yX7_isOff wsX7_isOff) := goodIn_app (goodIn_of _ (by decide +kernel)) ggX7_takes_X7_isOff
set_option maxRecDepth 20000 in
theorem ggX7_takes_X0_countLost : GoodIn wsX7_takes wsX0_countLost := goodIn_r _ [18, 19, 20, 21, 17, 22, 23, 24, 25, 26, 27, 28, 29, 30, 31, 32, 33, 34, 35, 36, 37, 38, 39, 40, 41, 42, 43, 44, 54, 55, 56, 57, 58, 59, 60] (by decide +kernel) (by decide +kernel)
set_option maxRecDepth 20000 in
theorem gX7_takes_X0_countLost : GoodIn wsX7_takes (wsV RX7 192 RX0 yX0_countLost wsX0_countLost) := goodIn_app (goodIn_of _ (by decide +kernel)) ggX7_takes_X0_countLost
theorem dX7_takes_0 : decode cX7_takes 0 = .ok (.aload_n 0, 1) := by decide +kernel
theorem dX7_takes_1 : decode cX7_takes 1 = .ok (.iload_n 1, 1) := by decide +kernel
theorem dX7_takes_2 : decode cX7_takes 2 = .ok (.invokevirtual 94, 3) := by decide +kernel
theorem dX7_takes_5 : decode cX7_takes 5 = .ok (.ifCond .ne 10, 3) := by decide +kernel
theorem dX7_takes_8 : decode cX7_takes 8 = .ok (.iload_n 2, 1) := by decide +kernel
theorem dX7_takes_9 : decode cX7_takes 9 = .ok (.invokestatic 106, 3) := by decide +kernel
theorem dX7_takes_12 : decode cX7_takes 12 = .ok (.ifCond .eq 6, 3) := by decide +kernel
theorem dX7_takes_15 : decode cX7_takes 15 = .ok (.bipush (-2), 2) := by decide +kernel
theorem dX7_takes_17 : decode cX7_takes 17 = .ok (.ireturn, 1) := by decide +kernel
theorem dX7_takes_18 : decode cX7_takes 18 = .ok (.iload_n 3, 1) := by decide +kernel
theorem dX7_takes_19 : decode cX7_takes 19 = .ok (.iconst 0, 1) := by decide +kernel
theorem dX7_takes_20 : decode cX7_takes 20 = .ok (.iconst 1, 1) := by decide +kernel
theorem dX7_takes_21 : decode cX7_takes 21 = .ok (.invokestatic 66, 3) := by decide +kernel
theorem dX7_takes_24 : decode cX7_takes 24 = .ok (.ifCond .eq 6, 3) := by decide +kernel
theorem dX7_takes_27 : decode cX7_takes 27 = .ok (.bipush (-3), 2) := by decide +kernel
theorem dX7_takes_29 : decode cX7_takes 29 = .ok (.ireturn, 1) := by decide +kernel
theorem dX7_takes_30 : decode cX7_takes 30 = .ok (.iconst 1, 1) := by decide +kernel
theorem dX7_takes_31 : decode cX7_takes 31 = .ok (.iload_n 1, 1) := by decide +kernel
theorem dX7_takes_32 : decode cX7_takes 32 = .ok (.ishl, 1) := by decide +kernel
theorem dX7_takes_33 : decode cX7_takes 33 = .ok (.iconst (-1), 1) := by decide +kernel
theorem dX7_takes_34 : decode cX7_takes 34 = .ok (.ixor, 1) := by decide +kernel
theorem dX7_takes_35 : decode cX7_takes 35 = .ok (.istore 4, 2) := by decide +kernel
theorem dX7_takes_37 : decode cX7_takes 37 = .ok (.iload_n 3, 1) := by decide +kernel
theorem dX7_takes_38 : decode cX7_takes 38 = .ok (.ifCond .ne 17, 3) := by decide +kernel
theorem dX7_takes_41 : decode cX7_takes 41 = .ok (.aload_n 0, 1) := by decide +kernel
theorem dX7_takes_42 : decode cX7_takes 42 = .ok (.getfield 28, 3) := by decide +kernel
theorem dX7_takes_45 : decode cX7_takes 45 = .ok (.iload_n 2, 1) := by decide +kernel
theorem dX7_takes_46 : decode cX7_takes 46 = .ok (.iconst (-1), 1) := by decide +kernel
theorem dX7_takes_47 : decode cX7_takes 47 = .ok (.iload 4, 2) := by decide +kernel
theorem dX7_takes_49 : decode cX7_takes 49 = .ok (.invokevirtual 192, 3) := by decide +kernel
theorem dX7_takes_52 : decode cX7_takes 52 = .ok (.goto 14, 3) := by decide +kernel
theorem dX7_takes_55 : decode cX7_takes 55 = .ok (.aload_n 0, 1) := by decide +kernel
theorem dX7_takes_56 : decode cX7_takes 56 = .ok (.getfield 28, 3) := by decide +kernel
theorem dX7_takes_59 : decode cX7_takes 59 = .ok (.iload_n 2, 1) := by decide +kernel
theorem dX7_takes_60 : decode cX7_takes 60 = .ok (.iload 4, 2) := by decide +kernel
theorem dX7_takes_62 : decode cX7_takes 62 = .ok (.iconst (-1), 1) := by decide +kernel
theorem dX7_takes_63 : decode cX7_takes 63 = .ok (.invokevirtual 192, 3) := by decide +kernel
theorem dX7_takes_66 : decode cX7_takes 66 = .ok (.ireturn, 1) := by decide +kernel
set_option maxRecDepth 20000 in
theorem ggX7_idle_X0_isIdle : GoodIn wsX7_idle wsX0_isIdle := goodIn_r _ [7, 8, 9, 10, 11, 6, 12, 13, 14, 15, 16, 17, 18, 19, 20, 21, 22, 23, 24, 25, 26, 27, 28, 29, 30, 31, 32, 33, 34, 35, 36, 37, 47, 48, 49, 50, 51, 52, 53] (by decide +kernel) (by decide +kernel)
set_option maxRecDepth 20000 in
theorem gX7_idle_X0_isIdle : GoodIn wsX7_idle (wsV RX7 195 RX0 yX0_isIdle wsX0_isIdle) := goodIn_app (goodIn_of _ (by decide +kernel)) ggX7_idle_X0_isIdle
theorem dX7_idle_0 : decode cX7_idle 0 = .ok (.iconst 0, 1) := by decide +kernel
theorem dX7_idle_1 : decode cX7_idle 1 = .ok (.istore_n 1, 1) := by decide +kernel
theorem dX7_idle_2 : decode cX7_idle 2 = .ok (.iconst 0, 1) := by decide +kernel
theorem dX7_idle_3 : decode cX7_idle 3 = .ok (.istore_n 2, 1) := by decide +kernel
theorem dX7_idle_4 : decode cX7_idle 4 = .ok (.iload_n 2, 1) := by decide +kernel
theorem dX7_idle_5 : decode cX7_idle 5 = .ok (.aload_n 0, 1) := by decide +kernel
theorem dX7_idle_6 : decode cX7_idle 6 = .ok (.getfield 28, 3) := by decide +kernel
theorem dX7_idle_9 : decode cX7_idle 9 = .ok (.getfield 83, 3) := by decide +kernel
theorem dX7_idle_12 : decode cX7_idle 12 = .ok (.if_icmp .ge 26, 3) := by decide +kernel
theorem dX7_idle_15 : decode cX7_idle 15 = .ok (.aload_n 0, 1) := by decide +kernel
theorem dX7_idle_16 : decode cX7_idle 16 = .ok (.getfield 28, 3) := by decide +kernel
theorem dX7_idle_19 : decode cX7_idle 19 = .ok (.iload_n 2, 1) := by decide +kernel
theorem dX7_idle_20 : decode cX7_idle 20 = .ok (.invokevirtual 195, 3) := by decide +kernel
theorem dX7_idle_23 : decode cX7_idle 23 = .ok (.ifCond .eq 9, 3) := by decide +kernel
theorem dX7_idle_26 : decode cX7_idle 26 = .ok (.iload_n 1, 1) := by decide +kernel
theorem dX7_idle_27 : decode cX7_idle 27 = .ok (.iconst 1, 1) := by decide +kernel
theorem dX7_idle_28 : decode cX7_idle 28 = .ok (.iload_n 2, 1) := by decide +kernel
theorem dX7_idle_29 : decode cX7_idle 29 = .ok (.ishl, 1) := by decide +kernel
theorem dX7_idle_30 : decode cX7_idle 30 = .ok (.ior, 1) := by decide +kernel
theorem dX7_idle_31 : decode cX7_idle 31 = .ok (.istore_n 1, 1) := by decide +kernel
theorem dX7_idle_32 : decode cX7_idle 32 = .ok (.iinc 2 1, 3) := by decide +kernel
theorem dX7_idle_35 : decode cX7_idle 35 = .ok (.goto (-31), 3) := by decide +kernel
theorem dX7_idle_38 : decode cX7_idle 38 = .ok (.iload_n 1, 1) := by decide +kernel
theorem dX7_idle_39 : decode cX7_idle 39 = .ok (.ireturn, 1) := by decide +kernel
set_option maxRecDepth 20000 in
theorem ggX7_seize_X7_isNoGuild : GoodIn wsX7_seize wsX7_isNoGuild := goodIn_r _ [8, 9, 10, 7, 11] (by decide +kernel) (by decide +kernel)
set_option maxRecDepth 20000 in
theorem gX7_seize_X7_isNoGuild : GoodIn wsX7_seize (va_wsS RX7 106 yX7_isNoGuild wsX7_isNoGuild) := goodIn_app (goodIn_of _ (by decide +kernel)) ggX7_seize_X7_isNoGuild
set_option maxRecDepth 20000 in
theorem ggX7_seize_X7_isNoWork : GoodIn wsX7_seize wsX7_isNoWork := goodIn_r _ [14, 9, 10, 7, 11] (by decide +kernel) (by decide +kernel)
set_option maxRecDepth 20000 in
theorem gX7_seize_X7_isNoWork : GoodIn wsX7_seize (va_wsS RX7 109 yX7_isNoWork wsX7_isNoWork) := goodIn_app (goodIn_of _ (by decide +kernel)) ggX7_seize_X7_isNoWork
set_option maxRecDepth 20000 in
theorem ggX7_seize_X7_isOff : GoodIn wsX7_seize wsX7_isOff := goodIn_r _ [11] (by decide +kernel) (by decide +kernel)
set_option maxRecDepth 20000 in
theorem gX7_seize_X7_isOff : GoodIn wsX7_seize (va_wsS RX7 66 yX7_isOff wsX7_isOff) := goodIn_app (goodIn_of _ (by decide +kernel)) ggX7_seize_X7_isOff
set_option maxRecDepth 20000 in
theorem ggX7_seize_X3_addSeizure : GoodIn wsX7_seize wsX3_addSeizure := goodIn_r _ [19, 20, 21, 22, 23, 40, 41, 42, 43] (by decide +kernel) (by decide +kernel)
set_option maxRecDepth 20000 in
theorem gX7_seize_X3_addSeizure : GoodIn wsX7_seize (wsV RX7 199 RX3 yX3_addSeizure wsX3_addSeizure) := goodIn_app (goodIn_of _ (by decide +kernel)) ggX7_seize_X3_addSeizure
theorem dX7_seize_0 : decode cX7_seize 0 = .ok (.iload_n 1, 1) := by decide +kernel
theorem dX7_seize_1 : decode cX7_seize 1 = .ok (.invokestatic 106, 3) := by decide +kernel
theorem dX7_seize_4 : decode cX7_seize 4 = .ok (.ifCond .ne 10, 3) := by decide +kernel
theorem dX7_seize_7 : decode cX7_seize 7 = .ok (.iload_n 2, 1) := by decide +kernel
theorem dX7_seize_8 : decode cX7_seize 8 = .ok (.invokestatic 109, 3) := by decide +kernel
theorem dX7_seize_11 : decode cX7_seize 11 = .ok (.ifCond .eq 6, 3) := by decide +kernel
theorem dX7_seize_14 : decode cX7_seize 14 = .ok (.bipush (-2), 2) := by decide +kernel
theorem dX7_seize_16 : decode cX7_seize 16 = .ok (.ireturn, 1) := by decide +kernel
theorem dX7_seize_17 : decode cX7_seize 17 = .ok (.iload_n 3, 1) := by decide +kernel
theorem dX7_seize_18 : decode cX7_seize 18 = .ok (.iconst 0, 1) := by decide +kernel
theorem dX7_seize_19 : decode cX7_seize 19 = .ok (.aload_n 0, 1) := by decide +kernel
theorem dX7_seize_20 : decode cX7_seize 20 = .ok (.getfield 28, 3) := by decide +kernel
theorem dX7_seize_23 : decode cX7_seize 23 = .ok (.getfield 83, 3) := by decide +kernel
theorem dX7_seize_26 : decode cX7_seize 26 = .ok (.invokestatic 66, 3) := by decide +kernel
theorem dX7_seize_29 : decode cX7_seize 29 = .ok (.ifCond .eq 6, 3) := by decide +kernel
theorem dX7_seize_32 : decode cX7_seize 32 = .ok (.bipush (-3), 2) := by decide +kernel
theorem dX7_seize_34 : decode cX7_seize 34 = .ok (.ireturn, 1) := by decide +kernel
theorem dX7_seize_35 : decode cX7_seize 35 = .ok (.aload_n 0, 1) := by decide +kernel
theorem dX7_seize_36 : decode cX7_seize 36 = .ok (.getfield 58, 3) := by decide +kernel
theorem dX7_seize_39 : decode cX7_seize 39 = .ok (.getfield 198, 3) := by decide +kernel
theorem dX7_seize_42 : decode cX7_seize 42 = .ok (.bipush 16, 2) := by decide +kernel
theorem dX7_seize_44 : decode cX7_seize 44 = .ok (.if_icmp .ne 6, 3) := by decide +kernel
theorem dX7_seize_47 : decode cX7_seize 47 = .ok (.bipush (-5), 2) := by decide +kernel
theorem dX7_seize_49 : decode cX7_seize 49 = .ok (.ireturn, 1) := by decide +kernel
theorem dX7_seize_50 : decode cX7_seize 50 = .ok (.aload_n 0, 1) := by decide +kernel
theorem dX7_seize_51 : decode cX7_seize 51 = .ok (.getfield 58, 3) := by decide +kernel
theorem dX7_seize_54 : decode cX7_seize 54 = .ok (.iload_n 1, 1) := by decide +kernel
theorem dX7_seize_55 : decode cX7_seize 55 = .ok (.iload_n 2, 1) := by decide +kernel
theorem dX7_seize_56 : decode cX7_seize 56 = .ok (.iload_n 3, 1) := by decide +kernel
theorem dX7_seize_57 : decode cX7_seize 57 = .ok (.invokevirtual 199, 3) := by decide +kernel
theorem dX7_seize_60 : decode cX7_seize 60 = .ok (.aload_n 0, 1) := by decide +kernel
theorem dX7_seize_61 : decode cX7_seize 61 = .ok (.getfield 58, 3) := by decide +kernel
theorem dX7_seize_64 : decode cX7_seize 64 = .ok (.getfield 198, 3) := by decide +kernel
theorem dX7_seize_67 : decode cX7_seize 67 = .ok (.ireturn, 1) := by decide +kernel
set_option maxRecDepth 20000 in
theorem ggX7_right_X7_isOff : GoodIn wsX7_right wsX7_isOff := goodIn_r _ [7] (by decide +kernel) (by decide +kernel)
set_option maxRecDepth 20000 in
theorem gX7_right_X7_isOff : GoodIn wsX7_right (va_wsS RX7 66 yX7_isOff wsX7_isOff) := goodIn_app (goodIn_of _ (by decide +kernel)) ggX7_right_X7_isOff
set_option maxRecDepth 20000 in
theorem ggX7_right_X3_firstWrong : GoodIn wsX7_right wsX3_firstWrong := goodIn_r _ [12, 13, 14, 15, 16, 11, 17, 18, 19, 20, 21, 22, 23, 24, 25, 26, 27, 28, 29, 30, 31, 32, 33, 34, 35, 36, 37, 38, 39, 40, 41, 42, 43, 44, 45, 46, 47, 58, 59, 60, 61, 62, 63, 64, 65, 66, 67, 68] (by decide +kernel) (by decide +kernel)
set_option maxRecDepth 20000 in
theorem gX7_right_X3_firstWrong : GoodIn wsX7_right (wsV RX7 203 RX3 yX3_firstWrong wsX3_firstWrong) := goodIn_app (goodIn_of _ (by decide +kernel)) ggX7_right_X3_firstWrong
set_option maxRecDepth 20000 in
theorem ggX7_right_X3_isRight : GoodIn wsX7_right wsX3_isRight := goodIn_r _ [17, 18, 19, 20, 21, 22, 23, 24, 25, 26, 27, 28, 29, 30, 31, 32, 33, 34, 35, 36, 37, 38, 39, 40, 41, 42, 43, 44, 45, 46, 47, 58, 59, 60, 61, 62, 63, 64, 65, 66, 67, 68] (by decide +kernel) (by decide +kernel)
set_option maxRecDepth 20000 in
theorem gX7_right_X3_isRight : GoodIn wsX7_right (wsV RX7 207 RX3 yX3_isRight wsX3_isRight) := goodIn_app (goodIn_of _ (by decide +kernel)) ggX7_right_X3_isRight
theorem dX7_right_0 : decode cX7_right 0 = .ok (.iload_n 1, 1) := by decide +kernel
theorem dX7_right_1 : decode cX7_right 1 = .ok (.iconst (-1), 1) := by decide +kernel
theorem dX7_right_2 : decode cX7_right 2 = .ok (.aload_n 0, 1) := by decide +kernel
theorem dX7_right_3 : decode cX7_right 3 = .ok (.getfield 58, 3) := by decide +kernel
theorem dX7_right_6 : decode cX7_right 6 = .ok (.getfield 198, 3) := by decide +kernel
theorem dX7_right_9 : decode cX7_right 9 = .ok (.iconst 1, 1) := by decide +kernel
theorem dX7_right_10 : decode cX7_right 10 = .ok (.isub, 1) := by decide +kernel
theorem dX7_right_11 : decode cX7_right 11 = .ok (.invokestatic 66, 3) := by decide +kernel
theorem dX7_right_14 : decode cX7_right 14 = .ok (.ifCond .eq 6, 3) := by decide +kernel
theorem dX7_right_17 : decode cX7_right 17 = .ok (.bipush (-2), 2) := by decide +kernel
theorem dX7_right_19 : decode cX7_right 19 = .ok (.ireturn, 1) := by decide +kernel
theorem dX7_right_20 : decode cX7_right 20 = .ok (.iload_n 1, 1) := by decide +kernel
theorem dX7_right_21 : decode cX7_right 21 = .ok (.iconst (-1), 1) := by decide +kernel
theorem dX7_right_22 : decode cX7_right 22 = .ok (.if_icmp .ne 17, 3) := by decide +kernel
theorem dX7_right_25 : decode cX7_right 25 = .ok (.aload_n 0, 1) := by decide +kernel
theorem dX7_right_26 : decode cX7_right 26 = .ok (.getfield 58, 3) := by decide +kernel
theorem dX7_right_29 : decode cX7_right 29 = .ok (.aload_n 0, 1) := by decide +kernel
theorem dX7_right_30 : decode cX7_right 30 = .ok (.getfield 28, 3) := by decide +kernel
theorem dX7_right_33 : decode cX7_right 33 = .ok (.invokevirtual 203, 3) := by decide +kernel
theorem dX7_right_36 : decode cX7_right 36 = .ok (.goto 23, 3) := by decide +kernel
theorem dX7_right_39 : decode cX7_right 39 = .ok (.aload_n 0, 1) := by decide +kernel
theorem dX7_right_40 : decode cX7_right 40 = .ok (.getfield 58, 3) := by decide +kernel
theorem dX7_right_43 : decode cX7_right 43 = .ok (.iload_n 1, 1) := by decide +kernel
theorem dX7_right_44 : decode cX7_right 44 = .ok (.aload_n 0, 1) := by decide +kernel
theorem dX7_right_45 : decode cX7_right 45 = .ok (.getfield 28, 3) := by decide +kernel
theorem dX7_right_48 : decode cX7_right 48 = .ok (.invokevirtual 207, 3) := by decide +kernel
theorem dX7_right_51 : decode cX7_right 51 = .ok (.ifCond .eq 7, 3) := by decide +kernel
theorem dX7_right_54 : decode cX7_right 54 = .ok (.iconst 1, 1) := by decide +kernel
theorem dX7_right_55 : decode cX7_right 55 = .ok (.goto 4, 3) := by decide +kernel
theorem dX7_right_58 : decode cX7_right 58 = .ok (.iconst 0, 1) := by decide +kernel
theorem dX7_right_59 : decode cX7_right 59 = .ok (.ireturn, 1) := by decide +kernel
set_option maxRecDepth 20000 in
theorem ggX7_year_X7_isNoWork : GoodIn wsX7_year wsX7_isNoWork := goodIn_r _ [6, 7, 8, 5, 9] (by decide +kernel) (by decide +kernel)
set_option maxRecDepth 20000 in
theorem gX7_year_X7_isNoWork : GoodIn wsX7_year (va_wsS RX7 109 yX7_isNoWork wsX7_isNoWork) := goodIn_app (goodIn_of _ (by decide +kernel)) ggX7_year_X7_isNoWork
theorem dX7_year_0 : decode cX7_year 0 = .ok (.iload_n 1, 1) := by decide +kernel
theorem dX7_year_1 : decode cX7_year 1 = .ok (.invokestatic 109, 3) := by decide +kernel
theorem dX7_year_4 : decode cX7_year 4 = .ok (.ifCond .eq 6, 3) := by decide +kernel
theorem dX7_year_7 : decode cX7_year 7 = .ok (.bipush (-2), 2) := by decide +kernel
theorem dX7_year_9 : decode cX7_year 9 = .ok (.ireturn, 1) := by decide +kernel
theorem dX7_year_10 : decode cX7_year 10 = .ok (.aload_n 0, 1) := by decide +kernel
theorem dX7_year_11 : decode cX7_year 11 = .ok (.getfield 211, 3) := by decide +kernel
theorem dX7_year_14 : decode cX7_year 14 = .ok (.bipush 24, 2) := by decide +kernel
theorem dX7_year_16 : decode cX7_year 16 = .ok (.if_icmp .ne 6, 3) := by decide +kernel
theorem dX7_year_19 : decode cX7_year 19 = .ok (.bipush (-5), 2) := by decide +kernel
theorem dX7_year_21 : decode cX7_year 21 = .ok (.ireturn, 1) := by decide +kernel
theorem dX7_year_22 : decode cX7_year 22 = .ok (.aload_n 0, 1) := by decide +kernel
theorem dX7_year_23 : decode cX7_year 23 = .ok (.getfield 62, 3) := by decide +kernel
theorem dX7_year_26 : decode cX7_year 26 = .ok (.aload_n 0, 1) := by decide +kernel
theorem dX7_year_27 : decode cX7_year 27 = .ok (.getfield 211, 3) := by decide +kernel
theorem dX7_year_30 : decode cX7_year 30 = .ok (.iload_n 1, 1) := by decide +kernel
theorem dX7_year_31 : decode cX7_year 31 = .ok (.iastore, 1) := by decide +kernel
theorem dX7_year_32 : decode cX7_year 32 = .ok (.aload_n 0, 1) := by decide +kernel
theorem dX7_year_33 : decode cX7_year 33 = .ok (.dup, 1) := by decide +kernel
theorem dX7_year_34 : decode cX7_year 34 = .ok (.getfield 211, 3) := by decide +kernel
theorem dX7_year_37 : decode cX7_year 37 = .ok (.iconst 1, 1) := by decide +kernel
theorem dX7_year_38 : decode cX7_year 38 = .ok (.iadd, 1) := by decide +kernel
theorem dX7_year_39 : decode cX7_year 39 = .ok (.putfield 211, 3) := by decide +kernel
theorem dX7_year_42 : decode cX7_year 42 = .ok (.aload_n 0, 1) := by decide +kernel
theorem dX7_year_43 : decode cX7_year 43 = .ok (.getfield 211, 3) := by decide +kernel
theorem dX7_year_46 : decode cX7_year 46 = .ok (.ireturn, 1) := by decide +kernel
set_option maxRecDepth 20000 in
theorem ggX7_yearly_X7_isNoGuild : GoodIn wsX7_yearly wsX7_isNoGuild := goodIn_r _ [7, 8, 9, 6, 10] (by decide +kernel) (by decide +kernel)
set_option maxRecDepth 20000 in
theorem gX7_yearly_X7_isNoGuild : GoodIn wsX7_yearly (va_wsS RX7 106 yX7_isNoGuild wsX7_isNoGuild) := goodIn_app (goodIn_of _ (by decide +kernel)) ggX7_yearly_X7_isNoGuild
set_option maxRecDepth 20000 in
theorem ggX7_yearly_X0_leave : GoodIn wsX7_yearly wsX0_leave := goodIn_r _ [15, 16, 17, 18, 14, 19, 20, 21, 22, 23, 24, 25, 26, 27, 28, 29, 30, 31, 32, 33, 34, 35, 36, 37, 47, 48, 49, 50, 51, 52, 53] (by decide +kernel) (by decide +kernel)
set_option maxRecDepth 20000 in
theorem gX7_yearly_X0_leave : GoodIn wsX7_yearly (wsV RX7 112 RX0 yX0_leave wsX0_leave) := goodIn_app (goodIn_of _ (by decide +kernel)) ggX7_yearly_X0_leave
theorem dX7_yearly_0 : decode cX7_yearly 0 = .ok (.iload_n 1, 1) := by decide +kernel
theorem dX7_yearly_1 : decode cX7_yearly 1 = .ok (.invokestatic 106, 3) := by decide +kernel
theorem dX7_yearly_4 : decode cX7_yearly 4 = .ok (.ifCond .eq 6, 3) := by decide +kernel
theorem dX7_yearly_7 : decode cX7_yearly 7 = .ok (.bipush (-2), 2) := by decide +kernel
theorem dX7_yearly_9 : decode cX7_yearly 9 = .ok (.ireturn, 1) := by decide +kernel
theorem dX7_yearly_10 : decode cX7_yearly 10 = .ok (.iconst 0, 1) := by decide +kernel
theorem dX7_yearly_11 : decode cX7_yearly 11 = .ok (.istore_n 2, 1) := by decide +kernel
theorem dX7_yearly_12 : decode cX7_yearly 12 = .ok (.iconst 0, 1) := by decide +kernel
theorem dX7_yearly_13 : decode cX7_yearly 13 = .ok (.istore_n 3, 1) := by decide +kernel
theorem dX7_yearly_14 : decode cX7_yearly 14 = .ok (.iload_n 3, 1) := by decide +kernel
theorem dX7_yearly_15 : decode cX7_yearly 15 = .ok (.aload_n 0, 1) := by decide +kernel
theorem dX7_yearly_16 : decode cX7_yearly 16 = .ok (.getfield 211, 3) := by decide +kernel
theorem dX7_yearly_19 : decode cX7_yearly 19 = .ok (.if_icmp .ge 30, 3) := by decide +kernel
theorem dX7_yearly_22 : decode cX7_yearly 22 = .ok (.aload_n 0, 1) := by decide +kernel

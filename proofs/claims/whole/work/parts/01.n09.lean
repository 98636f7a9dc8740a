theorem dX8_stepCost_9 : decode cX8_stepCost 9 = .ok (.if_icmp .eq 7, 3) := by decide +kernel
theorem dX8_stepCost_12 : decode cX8_stepCost 12 = .ok (.iconst 1, 1) := by decide +kernel
theorem dX8_stepCost_13 : decode cX8_stepCost 13 = .ok (.goto 4, 3) := by decide +kernel
theorem dX8_stepCost_16 : decode cX8_stepCost 16 = .ok (.iconst 0, 1) := by decide +kernel
theorem dX8_stepCost_17 : decode cX8_stepCost 17 = .ok (.istore 6, 2) := by decide +kernel
theorem dX8_stepCost_19 : decode cX8_stepCost 19 = .ok (.iload 5, 2) := by decide +kernel
theorem dX8_stepCost_21 : decode cX8_stepCost 21 = .ok (.ifCond .eq 23, 3) := by decide +kernel
theorem dX8_stepCost_24 : decode cX8_stepCost 24 = .ok (.aload_n 0, 1) := by decide +kernel
theorem dX8_stepCost_25 : decode cX8_stepCost 25 = .ok (.getfield 31, 3) := by decide +kernel
theorem dX8_stepCost_28 : decode cX8_stepCost 28 = .ok (.iload_n 3, 1) := by decide +kernel
theorem dX8_stepCost_29 : decode cX8_stepCost 29 = .ok (.iaload, 1) := by decide +kernel
theorem dX8_stepCost_30 : decode cX8_stepCost 30 = .ok (.iload 6, 2) := by decide +kernel
theorem dX8_stepCost_32 : decode cX8_stepCost 32 = .ok (.ifCond .eq 7, 3) := by decide +kernel
theorem dX8_stepCost_35 : decode cX8_stepCost 35 = .ok (.iconst 1, 1) := by decide +kernel
theorem dX8_stepCost_36 : decode cX8_stepCost 36 = .ok (.goto 4, 3) := by decide +kernel
theorem dX8_stepCost_39 : decode cX8_stepCost 39 = .ok (.iconst 0, 1) := by decide +kernel
theorem dX8_stepCost_40 : decode cX8_stepCost 40 = .ok (.iadd, 1) := by decide +kernel
theorem dX8_stepCost_41 : decode cX8_stepCost 41 = .ok (.goto 40, 3) := by decide +kernel
theorem dX8_stepCost_44 : decode cX8_stepCost 44 = .ok (.aload_n 0, 1) := by decide +kernel
theorem dX8_stepCost_45 : decode cX8_stepCost 45 = .ok (.getfield 28, 3) := by decide +kernel
theorem dX8_stepCost_48 : decode cX8_stepCost 48 = .ok (.bipush 6, 2) := by decide +kernel
theorem dX8_stepCost_50 : decode cX8_stepCost 50 = .ok (.iload_n 3, 1) := by decide +kernel
theorem dX8_stepCost_51 : decode cX8_stepCost 51 = .ok (.imul, 1) := by decide +kernel
theorem dX8_stepCost_52 : decode cX8_stepCost 52 = .ok (.aload_n 0, 1) := by decide +kernel
theorem dX8_stepCost_53 : decode cX8_stepCost 53 = .ok (.getfield 46, 3) := by decide +kernel
theorem dX8_stepCost_56 : decode cX8_stepCost 56 = .ok (.iconst 2, 1) := by decide +kernel
theorem dX8_stepCost_57 : decode cX8_stepCost 57 = .ok (.iload_n 1, 1) := by decide +kernel
theorem dX8_stepCost_58 : decode cX8_stepCost 58 = .ok (.imul, 1) := by decide +kernel
theorem dX8_stepCost_59 : decode cX8_stepCost 59 = .ok (.iload_n 2, 1) := by decide +kernel
theorem dX8_stepCost_60 : decode cX8_stepCost 60 = .ok (.iadd, 1) := by decide +kernel
theorem dX8_stepCost_61 : decode cX8_stepCost 61 = .ok (.iaload, 1) := by decide +kernel
theorem dX8_stepCost_62 : decode cX8_stepCost 62 = .ok (.bipush 40, 2) := by decide +kernel
theorem dX8_stepCost_64 : decode cX8_stepCost 64 = .ok (.idiv, 1) := by decide +kernel
theorem dX8_stepCost_65 : decode cX8_stepCost 65 = .ok (.iadd, 1) := by decide +kernel
theorem dX8_stepCost_66 : decode cX8_stepCost 66 = .ok (.iaload, 1) := by decide +kernel
theorem dX8_stepCost_67 : decode cX8_stepCost 67 = .ok (.iload 6, 2) := by decide +kernel
theorem dX8_stepCost_69 : decode cX8_stepCost 69 = .ok (.ifCond .eq 10, 3) := by decide +kernel
theorem dX8_stepCost_72 : decode cX8_stepCost 72 = .ok (.aload_n 0, 1) := by decide +kernel
theorem dX8_stepCost_73 : decode cX8_stepCost 73 = .ok (.getfield 172, 3) := by decide +kernel
theorem dX8_stepCost_76 : decode cX8_stepCost 76 = .ok (.goto 4, 3) := by decide +kernel
theorem dX8_stepCost_79 : decode cX8_stepCost 79 = .ok (.iconst 0, 1) := by decide +kernel
theorem dX8_stepCost_80 : decode cX8_stepCost 80 = .ok (.iadd, 1) := by decide +kernel
theorem dX8_stepCost_81 : decode cX8_stepCost 81 = .ok (.ireturn, 1) := by decide +kernel
set_option maxRecDepth 20000 in
theorem ggX8_told_X8_isThing : GoodIn wsX8_told wsX8_isThing := goodIn_r _ [6, 7, 8, 9, 5, 10] (by decide +kernel) (by decide +kernel)
set_option maxRecDepth 20000 in
theorem gX8_told_X8_isThing : GoodIn wsX8_told (va_wsS RX8 165 yX8_isThing wsX8_isThing) := goodIn_app (goodIn_of _ (by decide +kernel)) ggX8_told_X8_isThing
set_option maxRecDepth 20000 in
theorem ggX8_told_X8_in : GoodIn wsX8_told wsX8_in := goodIn_r _ [10] (by decide +kernel) (by decide +kernel)
set_option maxRecDepth 20000 in
theorem gX8_told_X8_in : GoodIn wsX8_told (va_wsS RX8 57 yX8_in wsX8_in) := goodIn_app (goodIn_of _ (by decide +kernel)) ggX8_told_X8_in
set_option maxRecDepth 20000 in
theorem ggX8_told_X8_wrongStep : GoodIn wsX8_told wsX8_wrongStep := goodIn_r _ [14, 2, 15, 16, 17, 18, 5, 19, 20, 21, 22, 23, 24, 25, 26, 27, 28, 29, 30, 31, 32, 33, 34, 35, 36, 37, 38, 39, 40, 41, 42, 43, 44, 45, 46, 47, 48, 49, 50, 51, 52, 53, 54, 55, 56, 57, 58, 7, 8, 9, 10, 70, 71, 72, 73, 74, 75, 76, 77, 78, 79, 80, 81, 82, 83, 84, 85, 86, 87, 88, 89, 90, 91, 92, 93, 94, 95, 96] (by decide +kernel) (by decide +kernel)
set_option maxRecDepth 20000 in
theorem gX8_told_X8_wrongStep : GoodIn wsX8_told (wsV RX8 202 RX8 yX8_wrongStep wsX8_wrongStep) := goodIn_app (goodIn_of _ (by decide +kernel)) ggX8_told_X8_wrongStep
set_option maxRecDepth 20000 in
theorem ggX8_told_X8_stepCost : GoodIn wsX8_told wsX8_stepCost := goodIn_r _ [62, 63, 64, 32, 65, 70, 71, 72, 73, 74, 75, 76, 77, 78, 79, 80, 81, 82, 83, 84, 85, 86, 87, 88, 89, 90, 91, 92, 93, 94, 95, 96] (by decide +kernel) (by decide +kernel)
set_option maxRecDepth 20000 in
theorem gX8_told_X8_stepCost : GoodIn wsX8_told (wsV RX8 205 RX8 yX8_stepCost wsX8_stepCost) := goodIn_app (goodIn_of _ (by decide +kernel)) ggX8_told_X8_stepCost
set_option maxRecDepth 20000 in
theorem ggX8_told_X8_hands : GoodIn wsX8_told wsX8_hands := goodIn_r _ [69, 15, 70, 71, 72, 73, 74, 75, 76, 77, 78, 79, 80, 81, 82, 83, 84, 85, 86, 87, 88, 89, 90, 91, 92, 93, 94, 95, 96] (by decide +kernel) (by decide +kernel)
set_option maxRecDepth 20000 in
theorem gX8_told_X8_hands : GoodIn wsX8_told (wsV RX8 185 RX8 yX8_hands wsX8_hands) := goodIn_app (goodIn_of _ (by decide +kernel)) ggX8_told_X8_hands
theorem dX8_told_0 : decode cX8_told 0 = .ok (.iload_n 1, 1) := by decide +kernel
theorem dX8_told_1 : decode cX8_told 1 = .ok (.invokestatic 165, 3) := by decide +kernel
theorem dX8_told_4 : decode cX8_told 4 = .ok (.ifCond .ne 6, 3) := by decide +kernel
theorem dX8_told_7 : decode cX8_told 7 = .ok (.bipush (-2), 2) := by decide +kernel
theorem dX8_told_9 : decode cX8_told 9 = .ok (.ireturn, 1) := by decide +kernel
theorem dX8_told_10 : decode cX8_told 10 = .ok (.iload 4, 2) := by decide +kernel
theorem dX8_told_12 : decode cX8_told 12 = .ok (.i2l, 1) := by decide +kernel
theorem dX8_told_13 : decode cX8_told 13 = .ok (.lconst 0, 1) := by decide +kernel
theorem dX8_told_14 : decode cX8_told 14 = .ok (.ldc2_w 160, 3) := by decide +kernel
theorem dX8_told_17 : decode cX8_told 17 = .ok (.invokestatic 57, 3) := by decide +kernel
theorem dX8_told_20 : decode cX8_told 20 = .ok (.ifCond .ne 6, 3) := by decide +kernel
theorem dX8_told_23 : decode cX8_told 23 = .ok (.bipush (-3), 2) := by decide +kernel
theorem dX8_told_25 : decode cX8_told 25 = .ok (.ireturn, 1) := by decide +kernel
theorem dX8_told_26 : decode cX8_told 26 = .ok (.aload_n 0, 1) := by decide +kernel
theorem dX8_told_27 : decode cX8_told 27 = .ok (.iload_n 1, 1) := by decide +kernel
theorem dX8_told_28 : decode cX8_told 28 = .ok (.iload_n 2, 1) := by decide +kernel
theorem dX8_told_29 : decode cX8_told 29 = .ok (.iload_n 3, 1) := by decide +kernel
theorem dX8_told_30 : decode cX8_told 30 = .ok (.invokevirtual 202, 3) := by decide +kernel
theorem dX8_told_33 : decode cX8_told 33 = .ok (.iconst (-1), 1) := by decide +kernel
theorem dX8_told_34 : decode cX8_told 34 = .ok (.if_icmp .eq 6, 3) := by decide +kernel
theorem dX8_told_37 : decode cX8_told 37 = .ok (.bipush (-4), 2) := by decide +kernel
theorem dX8_told_39 : decode cX8_told 39 = .ok (.ireturn, 1) := by decide +kernel
theorem dX8_told_40 : decode cX8_told 40 = .ok (.iconst 0, 1) := by decide +kernel
theorem dX8_told_41 : decode cX8_told 41 = .ok (.istore 5, 2) := by decide +kernel
theorem dX8_told_43 : decode cX8_told 43 = .ok (.iconst 0, 1) := by decide +kernel
theorem dX8_told_44 : decode cX8_told 44 = .ok (.istore 6, 2) := by decide +kernel
theorem dX8_told_46 : decode cX8_told 46 = .ok (.iconst 0, 1) := by decide +kernel
theorem dX8_told_47 : decode cX8_told 47 = .ok (.istore 7, 2) := by decide +kernel
theorem dX8_told_49 : decode cX8_told 49 = .ok (.iload 7, 2) := by decide +kernel
theorem dX8_told_51 : decode cX8_told 51 = .ok (.aload_n 0, 1) := by decide +kernel
theorem dX8_told_52 : decode cX8_told 52 = .ok (.getfield 175, 3) := by decide +kernel
theorem dX8_told_55 : decode cX8_told 55 = .ok (.if_icmp .ge 89, 3) := by decide +kernel
theorem dX8_told_58 : decode cX8_told 58 = .ok (.iload_n 2, 1) := by decide +kernel
theorem dX8_told_59 : decode cX8_told 59 = .ok (.iconst 3, 1) := by decide +kernel
theorem dX8_told_60 : decode cX8_told 60 = .ok (.iload 7, 2) := by decide +kernel
theorem dX8_told_62 : decode cX8_told 62 = .ok (.imul, 1) := by decide +kernel
theorem dX8_told_63 : decode cX8_told 63 = .ok (.ishr, 1) := by decide +kernel
theorem dX8_told_64 : decode cX8_told 64 = .ok (.bipush 7, 2) := by decide +kernel
theorem dX8_told_66 : decode cX8_told 66 = .ok (.iand, 1) := by decide +kernel
theorem dX8_told_67 : decode cX8_told 67 = .ok (.istore 8, 2) := by decide +kernel
theorem dX8_told_69 : decode cX8_told 69 = .ok (.iload_n 3, 1) := by decide +kernel
theorem dX8_told_70 : decode cX8_told 70 = .ok (.iload 7, 2) := by decide +kernel
theorem dX8_told_72 : decode cX8_told 72 = .ok (.ishr, 1) := by decide +kernel
theorem dX8_told_73 : decode cX8_told 73 = .ok (.iconst 1, 1) := by decide +kernel
theorem dX8_told_74 : decode cX8_told 74 = .ok (.iand, 1) := by decide +kernel
theorem dX8_told_75 : decode cX8_told 75 = .ok (.istore 9, 2) := by decide +kernel
theorem dX8_told_77 : decode cX8_told 77 = .ok (.iload 5, 2) := by decide +kernel
theorem dX8_told_79 : decode cX8_told 79 = .ok (.aload_n 0, 1) := by decide +kernel
theorem dX8_told_80 : decode cX8_told 80 = .ok (.iload 7, 2) := by decide +kernel
theorem dX8_told_82 : decode cX8_told 82 = .ok (.iload 9, 2) := by decide +kernel
theorem dX8_told_84 : decode cX8_told 84 = .ok (.iload 8, 2) := by decide +kernel
theorem dX8_told_86 : decode cX8_told 86 = .ok (.iload 7, 2) := by decide +kernel
theorem dX8_told_88 : decode cX8_told 88 = .ok (.ifCond .ne 7, 3) := by decide +kernel
theorem dX8_told_91 : decode cX8_told 91 = .ok (.iconst (-1), 1) := by decide +kernel
theorem dX8_told_92 : decode cX8_told 92 = .ok (.goto 14, 3) := by decide +kernel
theorem dX8_told_95 : decode cX8_told 95 = .ok (.iload_n 2, 1) := by decide +kernel
theorem dX8_told_96 : decode cX8_told 96 = .ok (.iconst 3, 1) := by decide +kernel
theorem dX8_told_97 : decode cX8_told 97 = .ok (.iload 7, 2) := by decide +kernel
theorem dX8_told_99 : decode cX8_told 99 = .ok (.imul, 1) := by decide +kernel
theorem dX8_told_100 : decode cX8_told 100 = .ok (.iconst 3, 1) := by decide +kernel
theorem dX8_told_101 : decode cX8_told 101 = .ok (.isub, 1) := by decide +kernel
theorem dX8_told_102 : decode cX8_told 102 = .ok (.ishr, 1) := by decide +kernel
theorem dX8_told_103 : decode cX8_told 103 = .ok (.bipush 7, 2) := by decide +kernel
theorem dX8_told_105 : decode cX8_told 105 = .ok (.iand, 1) := by decide +kernel
theorem dX8_told_106 : decode cX8_told 106 = .ok (.iload 4, 2) := by decide +kernel
theorem dX8_told_108 : decode cX8_told 108 = .ok (.iconst 1, 1) := by decide +kernel
theorem dX8_told_109 : decode cX8_told 109 = .ok (.if_icmp .ne 7, 3) := by decide +kernel
theorem dX8_told_112 : decode cX8_told 112 = .ok (.iconst 1, 1) := by decide +kernel
theorem dX8_told_113 : decode cX8_told 113 = .ok (.goto 4, 3) := by decide +kernel
theorem dX8_told_116 : decode cX8_told 116 = .ok (.iconst 0, 1) := by decide +kernel
theorem dX8_told_117 : decode cX8_told 117 = .ok (.invokevirtual 205, 3) := by decide +kernel
theorem dX8_told_120 : decode cX8_told 120 = .ok (.iadd, 1) := by decide +kernel
theorem dX8_told_121 : decode cX8_told 121 = .ok (.istore 5, 2) := by decide +kernel
theorem dX8_told_123 : decode cX8_told 123 = .ok (.iload 6, 2) := by decide +kernel
theorem dX8_told_125 : decode cX8_told 125 = .ok (.aload_n 0, 1) := by decide +kernel
theorem dX8_told_126 : decode cX8_told 126 = .ok (.iload 7, 2) := by decide +kernel
theorem dX8_told_128 : decode cX8_told 128 = .ok (.iload 9, 2) := by decide +kernel
theorem dX8_told_130 : decode cX8_told 130 = .ok (.iload 8, 2) := by decide +kernel
theorem dX8_told_132 : decode cX8_told 132 = .ok (.invokevirtual 185, 3) := by decide +kernel
theorem dX8_told_135 : decode cX8_told 135 = .ok (.ior, 1) := by decide +kernel
theorem dX8_told_136 : decode cX8_told 136 = .ok (.istore 6, 2) := by decide +kernel
theorem dX8_told_138 : decode cX8_told 138 = .ok (.iinc 7 1, 3) := by decide +kernel
theorem dX8_told_141 : decode cX8_told 141 = .ok (.goto (-92), 3) := by decide +kernel
theorem dX8_told_144 : decode cX8_told 144 = .ok (.iload 4, 2) := by decide +kernel
theorem dX8_told_146 : decode cX8_told 146 = .ok (.iconst 2, 1) := by decide +kernel
theorem dX8_told_147 : decode cX8_told 147 = .ok (.if_icmp .ne 8, 3) := by decide +kernel
theorem dX8_told_150 : decode cX8_told 150 = .ok (.iload 6, 2) := by decide +kernel
theorem dX8_told_152 : decode cX8_told 152 = .ok (.goto 5, 3) := by decide +kernel
theorem dX8_told_155 : decode cX8_told 155 = .ok (.iload 5, 2) := by decide +kernel
theorem dX8_told_157 : decode cX8_told 157 = .ok (.ireturn, 1) := by decide +kernel
set_option maxRecDepth 20000 in
theorem ggX8_isGuilds_X8_in : GoodIn wsX8_isGuilds wsX8_in := goodIn_r _ [5] (by decide +kernel) (by decide +kernel)
set_option maxRecDepth 20000 in
theorem gX8_isGuilds_X8_in : GoodIn wsX8_isGuilds (va_wsS RX8 57 yX8_in wsX8_in) := goodIn_app (goodIn_of _ (by decide +kernel)) ggX8_isGuilds_X8_in
theorem dX8_isGuilds_0 : decode cX8_isGuilds 0 = .ok (.iload_n 0, 1) := by decide +kernel
theorem dX8_isGuilds_1 : decode cX8_isGuilds 1 = .ok (.i2l, 1) := by decide +kernel
theorem dX8_isGuilds_2 : decode cX8_isGuilds 2 = .ok (.lconst 0, 1) := by decide +kernel
theorem dX8_isGuilds_3 : decode cX8_isGuilds 3 = .ok (.ldc2_w 209, 3) := by decide +kernel
theorem dX8_isGuilds_6 : decode cX8_isGuilds 6 = .ok (.invokestatic 57, 3) := by decide +kernel
theorem dX8_isGuilds_9 : decode cX8_isGuilds 9 = .ok (.ireturn, 1) := by decide +kernel
set_option maxRecDepth 20000 in
theorem ggX8_can_X8_isThing : GoodIn wsX8_can wsX8_isThing := goodIn_r _ [4, 5, 6, 7, 3, 8] (by decide +kernel) (by decide +kernel)
set_option maxRecDepth 20000 in
theorem gX8_can_X8_isThing : GoodIn wsX8_can (va_wsS RX8 165 yX8_isThing wsX8_isThing) := goodIn_app (goodIn_of _ (by decide +kernel)) ggX8_can_X8_isThing
set_option maxRecDepth 20000 in
theorem ggX8_can_X8_isGuilds : GoodIn wsX8_can wsX8_isGuilds := goodIn_r _ [11, 12, 6, 7, 3, 8] (by decide +kernel) (by decide +kernel)
set_option maxRecDepth 20000 in
theorem gX8_can_X8_isGuilds : GoodIn wsX8_can (va_wsS RX8 211 yX8_isGuilds wsX8_isGuilds) := goodIn_app (goodIn_of _ (by decide +kernel)) ggX8_can_X8_isGuilds
set_option maxRecDepth 20000 in
theorem ggX8_can_X8_lay : GoodIn wsX8_can wsX8_lay := goodIn_r _ [16, 17, 18, 19, 3, 20, 21, 22, 23, 24, 25, 26, 27, 28, 29, 30, 31, 32, 33, 34, 35, 36, 37, 38, 39, 40, 41, 42, 43, 44, 45, 46, 47, 48, 49, 50, 51, 52, 53, 54, 67, 68, 69, 70, 71, 72, 73, 74, 75, 76, 77, 78, 79, 80, 81, 82, 83, 84, 85, 86, 87, 88, 89, 90, 91, 92, 93] (by decide +kernel) (by decide +kernel)
set_option maxRecDepth 20000 in
theorem gX8_can_X8_lay : GoodIn wsX8_can (wsV RX8 199 RX8 yX8_lay wsX8_lay) := goodIn_app (goodIn_of _ (by decide +kernel)) ggX8_can_X8_lay
set_option maxRecDepth 20000 in
theorem ggX8_can_X8_makes : GoodIn wsX8_can wsX8_makes := goodIn_r _ [58, 29, 59, 60, 61, 3, 62, 37, 63, 64, 65, 66, 67, 68, 69, 70, 71, 72, 73, 74, 75, 76, 77, 78, 79, 80, 81, 82, 83, 84, 85, 86, 87, 88, 89, 90, 91, 92, 93] (by decide +kernel) (by decide +kernel)
set_option maxRecDepth 20000 in
theorem gX8_can_X8_makes : GoodIn wsX8_can (wsV RX8 193 RX8 yX8_makes wsX8_makes) := goodIn_app (goodIn_of _ (by decide +kernel)) ggX8_can_X8_makes
theorem dX8_can_0 : decode cX8_can 0 = .ok (.iload_n 1, 1) := by decide +kernel
theorem dX8_can_1 : decode cX8_can 1 = .ok (.invokestatic 165, 3) := by decide +kernel
theorem dX8_can_4 : decode cX8_can 4 = .ok (.ifCond .ne 6, 3) := by decide +kernel
theorem dX8_can_7 : decode cX8_can 7 = .ok (.bipush (-2), 2) := by decide +kernel
theorem dX8_can_9 : decode cX8_can 9 = .ok (.ireturn, 1) := by decide +kernel
theorem dX8_can_10 : decode cX8_can 10 = .ok (.iload_n 2, 1) := by decide +kernel
theorem dX8_can_11 : decode cX8_can 11 = .ok (.invokestatic 211, 3) := by decide +kernel
theorem dX8_can_14 : decode cX8_can 14 = .ok (.ifCond .ne 6, 3) := by decide +kernel
theorem dX8_can_17 : decode cX8_can 17 = .ok (.bipush (-3), 2) := by decide +kernel
theorem dX8_can_19 : decode cX8_can 19 = .ok (.ireturn, 1) := by decide +kernel
theorem dX8_can_20 : decode cX8_can 20 = .ok (.aload_n 0, 1) := by decide +kernel
theorem dX8_can_21 : decode cX8_can 21 = .ok (.iload_n 1, 1) := by decide +kernel
theorem dX8_can_22 : decode cX8_can 22 = .ok (.invokevirtual 199, 3) := by decide +kernel
theorem dX8_can_25 : decode cX8_can 25 = .ok (.aload_n 0, 1) := by decide +kernel
theorem dX8_can_26 : decode cX8_can 26 = .ok (.iload_n 2, 1) := by decide +kernel
theorem dX8_can_27 : decode cX8_can 27 = .ok (.invokevirtual 193, 3) := by decide +kernel
theorem dX8_can_30 : decode cX8_can 30 = .ok (.ifCond .eq 7, 3) := by decide +kernel
theorem dX8_can_33 : decode cX8_can 33 = .ok (.iconst 1, 1) := by decide +kernel
theorem dX8_can_34 : decode cX8_can 34 = .ok (.goto 4, 3) := by decide +kernel
theorem dX8_can_37 : decode cX8_can 37 = .ok (.iconst 0, 1) := by decide +kernel
theorem dX8_can_38 : decode cX8_can 38 = .ok (.ireturn, 1) := by decide +kernel
set_option maxRecDepth 20000 in
theorem ggX8_fewest_X8_isThing : GoodIn wsX8_fewest wsX8_isThing := goodIn_r _ [4, 5, 6, 7, 3, 8] (by decide +kernel) (by decide +kernel)
set_option maxRecDepth 20000 in
theorem gX8_fewest_X8_isThing : GoodIn wsX8_fewest (va_wsS RX8 165 yX8_isThing wsX8_isThing) := goodIn_app (goodIn_of _ (by decide +kernel)) ggX8_fewest_X8_isThing
set_option maxRecDepth 20000 in
theorem ggX8_fewest_X8_in : GoodIn wsX8_fewest wsX8_in := goodIn_r _ [8] (by decide +kernel) (by decide +kernel)
set_option maxRecDepth 20000 in
theorem gX8_fewest_X8_in : GoodIn wsX8_fewest (va_wsS RX8 57 yX8_in wsX8_in) := goodIn_app (goodIn_of _ (by decide +kernel)) ggX8_fewest_X8_in
set_option maxRecDepth 20000 in
theorem ggX8_fewest_X8_lay : GoodIn wsX8_fewest wsX8_lay := goodIn_r _ [12, 13, 14, 15, 3, 16, 17, 18, 19, 20, 21, 22, 23, 24, 25, 26, 27, 28, 29, 30, 31, 32, 33, 34, 35, 36, 37, 38, 39, 40, 41, 42, 43, 44, 45, 46, 47, 48, 49, 50, 70, 71, 72, 73, 74, 75, 76, 77, 78, 79, 80, 81, 82, 83, 84, 85, 86, 87, 88, 89, 90, 91, 92, 93, 94, 95, 96] (by decide +kernel) (by decide +kernel)
set_option maxRecDepth 20000 in
theorem gX8_fewest_X8_lay : GoodIn wsX8_fewest (wsV RX8 199 RX8 yX8_lay wsX8_lay) := goodIn_app (goodIn_of _ (by decide +kernel)) ggX8_fewest_X8_lay
set_option maxRecDepth 20000 in
theorem ggX8_fewest_X8_leastSet : GoodIn wsX8_fewest wsX8_leastSet := goodIn_r _ [54, 55, 56, 3, 57, 58, 59, 60, 61, 25, 62, 63, 64, 65, 33, 66, 67, 68, 69, 70, 71, 72, 73, 74, 75, 76, 77, 78, 79, 80, 81, 82, 83, 84, 85, 86, 87, 88, 89, 90, 91, 92, 93, 94, 95, 96] (by decide +kernel) (by decide +kernel)
set_option maxRecDepth 20000 in
theorem gX8_fewest_X8_leastSet : GoodIn wsX8_fewest (wsV RX8 196 RX8 yX8_leastSet wsX8_leastSet) := goodIn_app (goodIn_of _ (by decide +kernel)) ggX8_fewest_X8_leastSet
set_option maxRecDepth 20000 in
theorem ggX8_fewest_X8_many : GoodIn wsX8_fewest wsX8_many := goodIn_r _ [57] (by decide +kernel) (by decide +kernel)
set_option maxRecDepth 20000 in
theorem gX8_fewest_X8_many : GoodIn wsX8_fewest (va_wsS RX8 157 yX8_many wsX8_many) := goodIn_app (goodIn_of _ (by decide +kernel)) ggX8_fewest_X8_many
theorem dX8_fewest_0 : decode cX8_fewest 0 = .ok (.iload_n 1, 1) := by decide +kernel
theorem dX8_fewest_1 : decode cX8_fewest 1 = .ok (.invokestatic 165, 3) := by decide +kernel
theorem dX8_fewest_4 : decode cX8_fewest 4 = .ok (.ifCond .ne 6, 3) := by decide +kernel
theorem dX8_fewest_7 : decode cX8_fewest 7 = .ok (.bipush (-2), 2) := by decide +kernel
theorem dX8_fewest_9 : decode cX8_fewest 9 = .ok (.ireturn, 1) := by decide +kernel
theorem dX8_fewest_10 : decode cX8_fewest 10 = .ok (.iload_n 2, 1) := by decide +kernel
theorem dX8_fewest_11 : decode cX8_fewest 11 = .ok (.i2l, 1) := by decide +kernel
theorem dX8_fewest_12 : decode cX8_fewest 12 = .ok (.lconst 0, 1) := by decide +kernel
theorem dX8_fewest_13 : decode cX8_fewest 13 = .ok (.lconst 1, 1) := by decide +kernel
theorem dX8_fewest_14 : decode cX8_fewest 14 = .ok (.invokestatic 57, 3) := by decide +kernel
theorem dX8_fewest_17 : decode cX8_fewest 17 = .ok (.ifCond .ne 6, 3) := by decide +kernel
theorem dX8_fewest_20 : decode cX8_fewest 20 = .ok (.bipush (-3), 2) := by decide +kernel
theorem dX8_fewest_22 : decode cX8_fewest 22 = .ok (.ireturn, 1) := by decide +kernel
theorem dX8_fewest_23 : decode cX8_fewest 23 = .ok (.aload_n 0, 1) := by decide +kernel
theorem dX8_fewest_24 : decode cX8_fewest 24 = .ok (.iload_n 1, 1) := by decide +kernel
theorem dX8_fewest_25 : decode cX8_fewest 25 = .ok (.invokevirtual 199, 3) := by decide +kernel
theorem dX8_fewest_28 : decode cX8_fewest 28 = .ok (.aload_n 0, 1) := by decide +kernel
theorem dX8_fewest_29 : decode cX8_fewest 29 = .ok (.invokevirtual 196, 3) := by decide +kernel
theorem dX8_fewest_32 : decode cX8_fewest 32 = .ok (.istore_n 3, 1) := by decide +kernel
theorem dX8_fewest_33 : decode cX8_fewest 33 = .ok (.iload_n 3, 1) := by decide +kernel
theorem dX8_fewest_34 : decode cX8_fewest 34 = .ok (.iconst (-1), 1) := by decide +kernel
theorem dX8_fewest_35 : decode cX8_fewest 35 = .ok (.if_icmp .eq 8, 3) := by decide +kernel
theorem dX8_fewest_38 : decode cX8_fewest 38 = .ok (.iload_n 2, 1) := by decide +kernel
theorem dX8_fewest_39 : decode cX8_fewest 39 = .ok (.iconst 1, 1) := by decide +kernel
theorem dX8_fewest_40 : decode cX8_fewest 40 = .ok (.if_icmp .ne 7, 3) := by decide +kernel
theorem dX8_fewest_43 : decode cX8_fewest 43 = .ok (.iload_n 3, 1) := by decide +kernel
theorem dX8_fewest_44 : decode cX8_fewest 44 = .ok (.goto 7, 3) := by decide +kernel
theorem dX8_fewest_47 : decode cX8_fewest 47 = .ok (.iload_n 3, 1) := by decide +kernel
theorem dX8_fewest_48 : decode cX8_fewest 48 = .ok (.invokestatic 157, 3) := by decide +kernel
theorem dX8_fewest_51 : decode cX8_fewest 51 = .ok (.ireturn, 1) := by decide +kernel
set_option maxRecDepth 20000 in
theorem ggX8_layRest_X8_goes : GoodIn wsX8_layRest wsX8_goes := goodIn_r _ [8, 9, 10, 11, 12, 7, 13, 22, 23, 24, 25, 26, 27, 28, 29, 30, 31, 32, 33, 34, 35, 36, 37, 38, 39, 40, 41, 42, 43, 44, 45, 46, 47, 48] (by decide +kernel) (by decide +kernel)
set_option maxRecDepth 20000 in
theorem gX8_layRest_X8_goes : GoodIn wsX8_layRest (wsV RX8 189 RX8 yX8_goes wsX8_goes) := goodIn_app (goodIn_of _ (by decide +kernel)) ggX8_layRest_X8_goes
set_option maxRecDepth 20000 in
theorem ggX8_layRest_X8_stepCost : GoodIn wsX8_layRest wsX8_stepCost := goodIn_r _ [17, 18, 19, 20, 21, 22, 23, 24, 25, 26, 27, 28, 29, 30, 31, 32, 33, 34, 35, 36, 37, 38, 39, 40, 41, 42, 43, 44, 45, 46, 47, 48] (by decide +kernel) (by decide +kernel)
set_option maxRecDepth 20000 in
theorem gX8_layRest_X8_stepCost : GoodIn wsX8_layRest (wsV RX8 205 RX8 yX8_stepCost wsX8_stepCost) := goodIn_app (goodIn_of _ (by decide +kernel)) ggX8_layRest_X8_stepCost
theorem dX8_layRest_0 : decode cX8_layRest 0 = .ok (.iconst 0, 1) := by decide +kernel
theorem dX8_layRest_1 : decode cX8_layRest 1 = .ok (.istore_n 3, 1) := by decide +kernel
theorem dX8_layRest_2 : decode cX8_layRest 2 = .ok (.iload_n 3, 1) := by decide +kernel
theorem dX8_layRest_3 : decode cX8_layRest 3 = .ok (.bipush 7, 2) := by decide +kernel
theorem dX8_layRest_5 : decode cX8_layRest 5 = .ok (.if_icmp .ge 24, 3) := by decide +kernel
theorem dX8_layRest_8 : decode cX8_layRest 8 = .ok (.aload_n 0, 1) := by decide +kernel
theorem dX8_layRest_9 : decode cX8_layRest 9 = .ok (.getfield 52, 3) := by decide +kernel
theorem dX8_layRest_12 : decode cX8_layRest 12 = .ok (.bipush 7, 2) := by decide +kernel
theorem dX8_layRest_14 : decode cX8_layRest 14 = .ok (.aload_n 0, 1) := by decide +kernel
theorem dX8_layRest_15 : decode cX8_layRest 15 = .ok (.getfield 175, 3) := by decide +kernel
theorem dX8_layRest_18 : decode cX8_layRest 18 = .ok (.imul, 1) := by decide +kernel
theorem dX8_layRest_19 : decode cX8_layRest 19 = .ok (.iload_n 3, 1) := by decide +kernel
theorem dX8_layRest_20 : decode cX8_layRest 20 = .ok (.iadd, 1) := by decide +kernel
theorem dX8_layRest_21 : decode cX8_layRest 21 = .ok (.iconst 0, 1) := by decide +kernel
theorem dX8_layRest_22 : decode cX8_layRest 22 = .ok (.iastore, 1) := by decide +kernel
theorem dX8_layRest_23 : decode cX8_layRest 23 = .ok (.iinc 3 1, 3) := by decide +kernel
theorem dX8_layRest_26 : decode cX8_layRest 26 = .ok (.goto (-24), 3) := by decide +kernel
theorem dX8_layRest_29 : decode cX8_layRest 29 = .ok (.aload_n 0, 1) := by decide +kernel
theorem dX8_layRest_30 : decode cX8_layRest 30 = .ok (.getfield 175, 3) := by decide +kernel
theorem dX8_layRest_33 : decode cX8_layRest 33 = .ok (.iconst 1, 1) := by decide +kernel
theorem dX8_layRest_34 : decode cX8_layRest 34 = .ok (.isub, 1) := by decide +kernel
theorem dX8_layRest_35 : decode cX8_layRest 35 = .ok (.istore_n 3, 1) := by decide +kernel
theorem dX8_layRest_36 : decode cX8_layRest 36 = .ok (.iload_n 3, 1) := by decide +kernel
theorem dX8_layRest_37 : decode cX8_layRest 37 = .ok (.ifCond .lt 142, 3) := by decide +kernel
theorem dX8_layRest_40 : decode cX8_layRest 40 = .ok (.iconst 0, 1) := by decide +kernel
theorem dX8_layRest_41 : decode cX8_layRest 41 = .ok (.istore 4, 2) := by decide +kernel
theorem dX8_layRest_43 : decode cX8_layRest 43 = .ok (.iload 4, 2) := by decide +kernel
theorem dX8_layRest_45 : decode cX8_layRest 45 = .ok (.bipush 7, 2) := by decide +kernel
theorem dX8_layRest_47 : decode cX8_layRest 47 = .ok (.if_icmp .ge 126, 3) := by decide +kernel
theorem dX8_layRest_50 : decode cX8_layRest 50 = .ok (.ldc 214, 2) := by decide +kernel
theorem dX8_layRest_52 : decode cX8_layRest 52 = .ok (.istore 5, 2) := by decide +kernel
theorem dX8_layRest_54 : decode cX8_layRest 54 = .ok (.iconst 0, 1) := by decide +kernel
theorem dX8_layRest_55 : decode cX8_layRest 55 = .ok (.istore 6, 2) := by decide +kernel
theorem dX8_layRest_57 : decode cX8_layRest 57 = .ok (.iload 6, 2) := by decide +kernel
theorem dX8_layRest_59 : decode cX8_layRest 59 = .ok (.bipush 12, 2) := by decide +kernel
theorem dX8_layRest_61 : decode cX8_layRest 61 = .ok (.if_icmp .ge 92, 3) := by decide +kernel
theorem dX8_layRest_64 : decode cX8_layRest 64 = .ok (.iload 6, 2) := by decide +kernel
theorem dX8_layRest_66 : decode cX8_layRest 66 = .ok (.bipush 6, 2) := by decide +kernel
theorem dX8_layRest_68 : decode cX8_layRest 68 = .ok (.irem, 1) := by decide +kernel
theorem dX8_layRest_69 : decode cX8_layRest 69 = .ok (.istore 7, 2) := by decide +kernel
theorem dX8_layRest_71 : decode cX8_layRest 71 = .ok (.aload_n 0, 1) := by decide +kernel
theorem dX8_layRest_72 : decode cX8_layRest 72 = .ok (.iload_n 3, 1) := by decide +kernel
theorem dX8_layRest_73 : decode cX8_layRest 73 = .ok (.iload 6, 2) := by decide +kernel
theorem dX8_layRest_75 : decode cX8_layRest 75 = .ok (.bipush 6, 2) := by decide +kernel
theorem dX8_layRest_77 : decode cX8_layRest 77 = .ok (.idiv, 1) := by decide +kernel
theorem dX8_layRest_78 : decode cX8_layRest 78 = .ok (.iload 7, 2) := by decide +kernel
theorem dX8_layRest_80 : decode cX8_layRest 80 = .ok (.iload_n 1, 1) := by decide +kernel
theorem dX8_layRest_81 : decode cX8_layRest 81 = .ok (.invokevirtual 189, 3) := by decide +kernel
theorem dX8_layRest_84 : decode cX8_layRest 84 = .ok (.ifCond .eq 63, 3) := by decide +kernel
theorem dX8_layRest_87 : decode cX8_layRest 87 = .ok (.aload_n 0, 1) := by decide +kernel
theorem dX8_layRest_88 : decode cX8_layRest 88 = .ok (.iload_n 3, 1) := by decide +kernel
theorem dX8_layRest_89 : decode cX8_layRest 89 = .ok (.iload 6, 2) := by decide +kernel
theorem dX8_layRest_91 : decode cX8_layRest 91 = .ok (.bipush 6, 2) := by decide +kernel
theorem dX8_layRest_93 : decode cX8_layRest 93 = .ok (.idiv, 1) := by decide +kernel
theorem dX8_layRest_94 : decode cX8_layRest 94 = .ok (.iload 7, 2) := by decide +kernel
theorem dX8_layRest_96 : decode cX8_layRest 96 = .ok (.iload 4, 2) := by decide +kernel
theorem dX8_layRest_98 : decode cX8_layRest 98 = .ok (.bipush 6, 2) := by decide +kernel
theorem dX8_layRest_100 : decode cX8_layRest 100 = .ok (.if_icmp .ne 7, 3) := by decide +kernel
theorem dX8_layRest_103 : decode cX8_layRest 103 = .ok (.iconst (-1), 1) := by decide +kernel
theorem dX8_layRest_104 : decode cX8_layRest 104 = .ok (.goto 5, 3) := by decide +kernel
theorem dX8_layRest_107 : decode cX8_layRest 107 = .ok (.iload 4, 2) := by decide +kernel
theorem dX8_layRest_109 : decode cX8_layRest 109 = .ok (.iload_n 2, 1) := by decide +kernel
theorem dX8_layRest_110 : decode cX8_layRest 110 = .ok (.invokevirtual 205, 3) := by decide +kernel
theorem dX8_layRest_113 : decode cX8_layRest 113 = .ok (.aload_n 0, 1) := by decide +kernel
theorem dX8_layRest_114 : decode cX8_layRest 114 = .ok (.getfield 52, 3) := by decide +kernel
theorem dX8_layRest_117 : decode cX8_layRest 117 = .ok (.bipush 7, 2) := by decide +kernel
theorem dX8_layRest_119 : decode cX8_layRest 119 = .ok (.iload_n 3, 1) := by decide +kernel
theorem dX8_layRest_120 : decode cX8_layRest 120 = .ok (.imul, 1) := by decide +kernel
theorem dX8_layRest_121 : decode cX8_layRest 121 = .ok (.bipush 7, 2) := by decide +kernel
theorem dX8_layRest_123 : decode cX8_layRest 123 = .ok (.iadd, 1) := by decide +kernel
theorem dX8_layRest_124 : decode cX8_layRest 124 = .ok (.iload 7, 2) := by decide +kernel
theorem dX8_layRest_126 : decode cX8_layRest 126 = .ok (.iadd, 1) := by decide +kernel
theorem dX8_layRest_127 : decode cX8_layRest 127 = .ok (.iaload, 1) := by decide +kernel
theorem dX8_layRest_128 : decode cX8_layRest 128 = .ok (.iadd, 1) := by decide +kernel
theorem dX8_layRest_129 : decode cX8_layRest 129 = .ok (.istore 8, 2) := by decide +kernel
theorem dX8_layRest_131 : decode cX8_layRest 131 = .ok (.iload 8, 2) := by decide +kernel
theorem dX8_layRest_133 : decode cX8_layRest 133 = .ok (.iload 5, 2) := by decide +kernel
theorem dX8_layRest_135 : decode cX8_layRest 135 = .ok (.if_icmp .ge 8, 3) := by decide +kernel
theorem dX8_layRest_138 : decode cX8_layRest 138 = .ok (.iload 8, 2) := by decide +kernel
theorem dX8_layRest_140 : decode cX8_layRest 140 = .ok (.goto 5, 3) := by decide +kernel
theorem dX8_layRest_143 : decode cX8_layRest 143 = .ok (.iload 5, 2) := by decide +kernel
theorem dX8_layRest_145 : decode cX8_layRest 145 = .ok (.istore 5, 2) := by decide +kernel
theorem dX8_layRest_147 : decode cX8_layRest 147 = .ok (.iinc 6 1, 3) := by decide +kernel
theorem dX8_layRest_150 : decode cX8_layRest 150 = .ok (.goto (-93), 3) := by decide +kernel
theorem dX8_layRest_153 : decode cX8_layRest 153 = .ok (.aload_n 0, 1) := by decide +kernel
theorem dX8_layRest_154 : decode cX8_layRest 154 = .ok (.getfield 52, 3) := by decide +kernel
theorem dX8_layRest_157 : decode cX8_layRest 157 = .ok (.bipush 7, 2) := by decide +kernel
theorem dX8_layRest_159 : decode cX8_layRest 159 = .ok (.iload_n 3, 1) := by decide +kernel
theorem dX8_layRest_160 : decode cX8_layRest 160 = .ok (.imul, 1) := by decide +kernel
theorem dX8_layRest_161 : decode cX8_layRest 161 = .ok (.iload 4, 2) := by decide +kernel
theorem dX8_layRest_163 : decode cX8_layRest 163 = .ok (.iadd, 1) := by decide +kernel
theorem dX8_layRest_164 : decode cX8_layRest 164 = .ok (.iload 5, 2) := by decide +kernel
theorem dX8_layRest_166 : decode cX8_layRest 166 = .ok (.iastore, 1) := by decide +kernel
theorem dX8_layRest_167 : decode cX8_layRest 167 = .ok (.iinc 4 1, 3) := by decide +kernel
theorem dX8_layRest_170 : decode cX8_layRest 170 = .ok (.goto (-127), 3) := by decide +kernel
theorem dX8_layRest_173 : decode cX8_layRest 173 = .ok (.iinc 3 (-1), 3) := by decide +kernel
theorem dX8_layRest_176 : decode cX8_layRest 176 = .ok (.goto (-140), 3) := by decide +kernel
theorem dX8_layRest_179 : decode cX8_layRest 179 = .ok (.return_, 1) := by decide +kernel
set_option maxRecDepth 20000 in
theorem ggX8_best_X8_isThing : GoodIn wsX8_best wsX8_isThing := goodIn_r _ [6, 7, 8, 9, 5, 10] (by decide +kernel) (by decide +kernel)
set_option maxRecDepth 20000 in
theorem gX8_best_X8_isThing : GoodIn wsX8_best (va_wsS RX8 165 yX8_isThing wsX8_isThing) := goodIn_app (goodIn_of _ (by decide +kernel)) ggX8_best_X8_isThing
set_option maxRecDepth 20000 in
theorem ggX8_best_X8_isGuilds : GoodIn wsX8_best wsX8_isGuilds := goodIn_r _ [13, 14, 8, 9, 5, 10] (by decide +kernel) (by decide +kernel)
set_option maxRecDepth 20000 in
theorem gX8_best_X8_isGuilds : GoodIn wsX8_best (va_wsS RX8 211 yX8_isGuilds wsX8_isGuilds) := goodIn_app (goodIn_of _ (by decide +kernel)) ggX8_best_X8_isGuilds
set_option maxRecDepth 20000 in
theorem ggX8_best_X8_in : GoodIn wsX8_best wsX8_in := goodIn_r _ [10] (by decide +kernel) (by decide +kernel)
set_option maxRecDepth 20000 in
theorem gX8_best_X8_in : GoodIn wsX8_best (va_wsS RX8 57 yX8_in wsX8_in) := goodIn_app (goodIn_of _ (by decide +kernel)) ggX8_best_X8_in
set_option maxRecDepth 20000 in
theorem ggX8_best_X8_lay : GoodIn wsX8_best wsX8_lay := goodIn_r _ [18, 19, 20, 21, 5, 22, 23, 24, 25, 26, 27, 28, 29, 30, 31, 32, 33, 34, 35, 36, 37, 38, 39, 40, 41, 42, 43, 44, 45, 46, 47, 48, 49, 50, 51, 52, 53, 54, 55, 56, 76, 77, 78, 79, 80, 81, 82, 83, 84, 85, 86, 87, 88, 89, 90, 91, 92, 93, 94, 95, 96, 97, 98, 99, 100, 101, 102] (by decide +kernel) (by decide +kernel)
set_option maxRecDepth 20000 in
theorem gX8_best_X8_lay : GoodIn wsX8_best (wsV RX8 199 RX8 yX8_lay wsX8_lay) := goodIn_app (goodIn_of _ (by decide +kernel)) ggX8_best_X8_lay
set_option maxRecDepth 20000 in
theorem ggX8_best_X8_layRest : GoodIn wsX8_best wsX8_layRest := goodIn_r _ [60, 1, 31, 2, 61, 62, 63, 5, 64, 39, 65, 66, 67, 68, 69, 70, 71, 72, 73, 74, 32, 75, 76, 77, 78, 79, 80, 81, 82, 83, 84, 85, 86, 87, 88, 89, 90, 91, 92, 93, 94, 95, 96, 97, 98, 99, 100, 101, 102] (by decide +kernel) (by decide +kernel)
set_option maxRecDepth 20000 in
theorem gX8_best_X8_layRest : GoodIn wsX8_best (wsV RX8 215 RX8 yX8_layRest wsX8_layRest) := goodIn_app (goodIn_of _ (by decide +kernel)) ggX8_best_X8_layRest
theorem dX8_best_0 : decode cX8_best 0 = .ok (.iload_n 1, 1) := by decide +kernel
theorem dX8_best_1 : decode cX8_best 1 = .ok (.invokestatic 165, 3) := by decide +kernel
theorem dX8_best_4 : decode cX8_best 4 = .ok (.ifCond .ne 6, 3) := by decide +kernel
theorem dX8_best_7 : decode cX8_best 7 = .ok (.bipush (-2), 2) := by decide +kernel
theorem dX8_best_9 : decode cX8_best 9 = .ok (.ireturn, 1) := by decide +kernel
theorem dX8_best_10 : decode cX8_best 10 = .ok (.iload_n 2, 1) := by decide +kernel
theorem dX8_best_11 : decode cX8_best 11 = .ok (.invokestatic 211, 3) := by decide +kernel
theorem dX8_best_14 : decode cX8_best 14 = .ok (.ifCond .eq 13, 3) := by decide +kernel
theorem dX8_best_17 : decode cX8_best 17 = .ok (.iload_n 3, 1) := by decide +kernel
theorem dX8_best_18 : decode cX8_best 18 = .ok (.i2l, 1) := by decide +kernel
theorem dX8_best_19 : decode cX8_best 19 = .ok (.lconst 0, 1) := by decide +kernel
theorem dX8_best_20 : decode cX8_best 20 = .ok (.lconst 1, 1) := by decide +kernel
theorem dX8_best_21 : decode cX8_best 21 = .ok (.invokestatic 57, 3) := by decide +kernel
theorem dX8_best_24 : decode cX8_best 24 = .ok (.ifCond .ne 6, 3) := by decide +kernel
theorem dX8_best_27 : decode cX8_best 27 = .ok (.bipush (-3), 2) := by decide +kernel
theorem dX8_best_29 : decode cX8_best 29 = .ok (.ireturn, 1) := by decide +kernel
theorem dX8_best_30 : decode cX8_best 30 = .ok (.aload_n 0, 1) := by decide +kernel
theorem dX8_best_31 : decode cX8_best 31 = .ok (.iload_n 1, 1) := by decide +kernel
theorem dX8_best_32 : decode cX8_best 32 = .ok (.invokevirtual 199, 3) := by decide +kernel
theorem dX8_best_35 : decode cX8_best 35 = .ok (.aload_n 0, 1) := by decide +kernel
theorem dX8_best_36 : decode cX8_best 36 = .ok (.iload_n 2, 1) := by decide +kernel
theorem dX8_best_37 : decode cX8_best 37 = .ok (.iload_n 3, 1) := by decide +kernel
theorem dX8_best_38 : decode cX8_best 38 = .ok (.iconst 1, 1) := by decide +kernel
theorem dX8_best_39 : decode cX8_best 39 = .ok (.if_icmp .ne 7, 3) := by decide +kernel
theorem dX8_best_42 : decode cX8_best 42 = .ok (.iconst 1, 1) := by decide +kernel
theorem dX8_best_43 : decode cX8_best 43 = .ok (.goto 4, 3) := by decide +kernel
theorem dX8_best_46 : decode cX8_best 46 = .ok (.iconst 0, 1) := by decide +kernel
theorem dX8_best_47 : decode cX8_best 47 = .ok (.invokevirtual 215, 3) := by decide +kernel
theorem dX8_best_50 : decode cX8_best 50 = .ok (.aload_n 0, 1) := by decide +kernel
theorem dX8_best_51 : decode cX8_best 51 = .ok (.getfield 52, 3) := by decide +kernel
theorem dX8_best_54 : decode cX8_best 54 = .ok (.bipush 6, 2) := by decide +kernel
theorem dX8_best_56 : decode cX8_best 56 = .ok (.iaload, 1) := by decide +kernel
theorem dX8_best_57 : decode cX8_best 57 = .ok (.ldc 214, 2) := by decide +kernel
theorem dX8_best_59 : decode cX8_best 59 = .ok (.if_icmp .lt 7, 3) := by decide +kernel
theorem dX8_best_62 : decode cX8_best 62 = .ok (.iconst (-1), 1) := by decide +kernel
theorem dX8_best_63 : decode cX8_best 63 = .ok (.goto 10, 3) := by decide +kernel
theorem dX8_best_66 : decode cX8_best 66 = .ok (.aload_n 0, 1) := by decide +kernel
theorem dX8_best_67 : decode cX8_best 67 = .ok (.getfield 52, 3) := by decide +kernel
theorem dX8_best_70 : decode cX8_best 70 = .ok (.bipush 6, 2) := by decide +kernel
theorem dX8_best_72 : decode cX8_best 72 = .ok (.iaload, 1) := by decide +kernel
theorem dX8_best_73 : decode cX8_best 73 = .ok (.ireturn, 1) := by decide +kernel
set_option maxRecDepth 20000 in
theorem ggX8_way_X8_isThing : GoodIn wsX8_way wsX8_isThing := goodIn_r _ [7, 8, 9, 10, 6, 11] (by decide +kernel) (by decide +kernel)
set_option maxRecDepth 20000 in
theorem gX8_way_X8_isThing : GoodIn wsX8_way (va_wsS RX8 165 yX8_isThing wsX8_isThing) := goodIn_app (goodIn_of _ (by decide +kernel)) ggX8_way_X8_isThing
set_option maxRecDepth 20000 in
theorem ggX8_way_X8_isGuilds : GoodIn wsX8_way wsX8_isGuilds := goodIn_r _ [14, 15, 9, 10, 6, 11] (by decide +kernel) (by decide +kernel)
set_option maxRecDepth 20000 in
theorem gX8_way_X8_isGuilds : GoodIn wsX8_way (va_wsS RX8 211 yX8_isGuilds wsX8_isGuilds) := goodIn_app (goodIn_of _ (by decide +kernel)) ggX8_way_X8_isGuilds
set_option maxRecDepth 20000 in
theorem ggX8_way_X8_in : GoodIn wsX8_way wsX8_in := goodIn_r _ [11] (by decide +kernel) (by decide +kernel)
set_option maxRecDepth 20000 in
theorem gX8_way_X8_in : GoodIn wsX8_way (va_wsS RX8 57 yX8_in wsX8_in) := goodIn_app (goodIn_of _ (by decide +kernel)) ggX8_way_X8_in
set_option maxRecDepth 20000 in
theorem ggX8_way_X8_lay : GoodIn wsX8_way wsX8_lay := goodIn_r _ [19, 20, 21, 22, 6, 23, 24, 25, 26, 27, 28, 29, 30, 31, 3, 32, 33, 34, 35, 36, 37, 38, 39, 40, 41, 42, 43, 44, 45, 46, 47, 48, 49, 50, 51, 52, 53, 54, 55, 56, 76, 77, 78, 79, 80, 81, 82, 83, 84, 85, 86, 87, 88, 89, 90, 91, 92, 93, 94, 95, 96, 97, 98, 99, 100, 101, 102] (by decide +kernel) (by decide +kernel)
set_option maxRecDepth 20000 in
theorem gX8_way_X8_lay : GoodIn wsX8_way (wsV RX8 199 RX8 yX8_lay wsX8_lay) := goodIn_app (goodIn_of _ (by decide +kernel)) ggX8_way_X8_lay
set_option maxRecDepth 20000 in
theorem ggX8_way_X8_layRest : GoodIn wsX8_way wsX8_layRest := goodIn_r _ [60, 1, 3, 2, 61, 62, 63, 6, 64, 39, 65, 66, 67, 68, 69, 70, 71, 72, 73, 74, 32, 75, 76, 77, 78, 79, 80, 81, 82, 83, 84, 85, 86, 87, 88, 89, 90, 91, 92, 93, 94, 95, 96, 97, 98, 99, 100, 101, 102] (by decide +kernel) (by decide +kernel)
set_option maxRecDepth 20000 in
theorem gX8_way_X8_layRest : GoodIn wsX8_way (wsV RX8 215 RX8 yX8_layRest wsX8_layRest) := goodIn_app (goodIn_of _ (by decide +kernel)) ggX8_way_X8_layRest
set_option maxRecDepth 20000 in
theorem ggX8_way_X8_goes : GoodIn wsX8_way wsX8_goes := goodIn_r _ [64, 39, 65, 66, 67, 6, 68, 76, 77, 78, 79, 80, 81, 82, 83, 84, 85, 86, 87, 88, 89, 90, 91, 92, 93, 94, 95, 96, 97, 98, 99, 100, 101, 102] (by decide +kernel) (by decide +kernel)
set_option maxRecDepth 20000 in
theorem gX8_way_X8_goes : GoodIn wsX8_way (wsV RX8 189 RX8 yX8_goes wsX8_goes) := goodIn_app (goodIn_of _ (by decide +kernel)) ggX8_way_X8_goes
set_option maxRecDepth 20000 in
theorem ggX8_way_X8_stepCost : GoodIn wsX8_way wsX8_stepCost := goodIn_r _ [72, 73, 74, 32, 75, 76, 77, 78, 79, 80, 81, 82, 83, 84, 85, 86, 87, 88, 89, 90, 91, 92, 93, 94, 95, 96, 97, 98, 99, 100, 101, 102] (by decide +kernel) (by decide +kernel)
set_option maxRecDepth 20000 in
theorem gX8_way_X8_stepCost : GoodIn wsX8_way (wsV RX8 205 RX8 yX8_stepCost wsX8_stepCost) := goodIn_app (goodIn_of _ (by decide +kernel)) ggX8_way_X8_stepCost
theorem dX8_way_0 : decode cX8_way 0 = .ok (.iload_n 1, 1) := by decide +kernel
theorem dX8_way_1 : decode cX8_way 1 = .ok (.invokestatic 165, 3) := by decide +kernel
theorem dX8_way_4 : decode cX8_way 4 = .ok (.ifCond .ne 6, 3) := by decide +kernel
theorem dX8_way_7 : decode cX8_way 7 = .ok (.bipush (-2), 2) := by decide +kernel
theorem dX8_way_9 : decode cX8_way 9 = .ok (.ireturn, 1) := by decide +kernel
theorem dX8_way_10 : decode cX8_way 10 = .ok (.iload_n 2, 1) := by decide +kernel
theorem dX8_way_11 : decode cX8_way 11 = .ok (.invokestatic 211, 3) := by decide +kernel
theorem dX8_way_14 : decode cX8_way 14 = .ok (.ifCond .eq 18, 3) := by decide +kernel
theorem dX8_way_17 : decode cX8_way 17 = .ok (.iload_n 3, 1) := by decide +kernel
theorem dX8_way_18 : decode cX8_way 18 = .ok (.ifCond .lt 14, 3) := by decide +kernel
theorem dX8_way_21 : decode cX8_way 21 = .ok (.iload 4, 2) := by decide +kernel
theorem dX8_way_23 : decode cX8_way 23 = .ok (.i2l, 1) := by decide +kernel
theorem dX8_way_24 : decode cX8_way 24 = .ok (.lconst 0, 1) := by decide +kernel
theorem dX8_way_25 : decode cX8_way 25 = .ok (.lconst 1, 1) := by decide +kernel
theorem dX8_way_26 : decode cX8_way 26 = .ok (.invokestatic 57, 3) := by decide +kernel
theorem dX8_way_29 : decode cX8_way 29 = .ok (.ifCond .ne 6, 3) := by decide +kernel
theorem dX8_way_32 : decode cX8_way 32 = .ok (.bipush (-3), 2) := by decide +kernel
theorem dX8_way_34 : decode cX8_way 34 = .ok (.ireturn, 1) := by decide +kernel
theorem dX8_way_35 : decode cX8_way 35 = .ok (.aload_n 0, 1) := by decide +kernel
theorem dX8_way_36 : decode cX8_way 36 = .ok (.iload_n 1, 1) := by decide +kernel
theorem dX8_way_37 : decode cX8_way 37 = .ok (.invokevirtual 199, 3) := by decide +kernel
theorem dX8_way_40 : decode cX8_way 40 = .ok (.aload_n 0, 1) := by decide +kernel
theorem dX8_way_41 : decode cX8_way 41 = .ok (.iload_n 2, 1) := by decide +kernel
theorem dX8_way_42 : decode cX8_way 42 = .ok (.iconst 0, 1) := by decide +kernel
theorem dX8_way_43 : decode cX8_way 43 = .ok (.invokevirtual 215, 3) := by decide +kernel
theorem dX8_way_46 : decode cX8_way 46 = .ok (.aload_n 0, 1) := by decide +kernel
theorem dX8_way_47 : decode cX8_way 47 = .ok (.getfield 52, 3) := by decide +kernel
theorem dX8_way_50 : decode cX8_way 50 = .ok (.bipush 6, 2) := by decide +kernel
theorem dX8_way_52 : decode cX8_way 52 = .ok (.iaload, 1) := by decide +kernel
theorem dX8_way_53 : decode cX8_way 53 = .ok (.ldc 214, 2) := by decide +kernel
theorem dX8_way_55 : decode cX8_way 55 = .ok (.if_icmp .ge 11, 3) := by decide +kernel
theorem dX8_way_58 : decode cX8_way 58 = .ok (.iload_n 3, 1) := by decide +kernel
theorem dX8_way_59 : decode cX8_way 59 = .ok (.aload_n 0, 1) := by decide +kernel
theorem dX8_way_60 : decode cX8_way 60 = .ok (.getfield 175, 3) := by decide +kernel
theorem dX8_way_63 : decode cX8_way 63 = .ok (.if_icmp .lt 5, 3) := by decide +kernel
theorem dX8_way_66 : decode cX8_way 66 = .ok (.iconst (-1), 1) := by decide +kernel
theorem dX8_way_67 : decode cX8_way 67 = .ok (.ireturn, 1) := by decide +kernel
theorem dX8_way_68 : decode cX8_way 68 = .ok (.bipush 6, 2) := by decide +kernel
theorem dX8_way_70 : decode cX8_way 70 = .ok (.istore 5, 2) := by decide +kernel
theorem dX8_way_72 : decode cX8_way 72 = .ok (.iconst 0, 1) := by decide +kernel
theorem dX8_way_73 : decode cX8_way 73 = .ok (.istore 6, 2) := by decide +kernel
theorem dX8_way_75 : decode cX8_way 75 = .ok (.iconst 0, 1) := by decide +kernel
theorem dX8_way_76 : decode cX8_way 76 = .ok (.istore 7, 2) := by decide +kernel
theorem dX8_way_78 : decode cX8_way 78 = .ok (.iload 7, 2) := by decide +kernel
theorem dX8_way_80 : decode cX8_way 80 = .ok (.iload_n 3, 1) := by decide +kernel
theorem dX8_way_81 : decode cX8_way 81 = .ok (.if_icmp .gt 149, 3) := by decide +kernel
theorem dX8_way_84 : decode cX8_way 84 = .ok (.iconst (-1), 1) := by decide +kernel
theorem dX8_way_85 : decode cX8_way 85 = .ok (.istore 8, 2) := by decide +kernel
theorem dX8_way_87 : decode cX8_way 87 = .ok (.iconst 0, 1) := by decide +kernel
theorem dX8_way_88 : decode cX8_way 88 = .ok (.istore 9, 2) := by decide +kernel
theorem dX8_way_90 : decode cX8_way 90 = .ok (.iload 9, 2) := by decide +kernel
theorem dX8_way_92 : decode cX8_way 92 = .ok (.bipush 12, 2) := by decide +kernel
theorem dX8_way_94 : decode cX8_way 94 = .ok (.if_icmp .ge 118, 3) := by decide +kernel
theorem dX8_way_97 : decode cX8_way 97 = .ok (.iload 8, 2) := by decide +kernel
theorem dX8_way_99 : decode cX8_way 99 = .ok (.iconst (-1), 1) := by decide +kernel
theorem dX8_way_100 : decode cX8_way 100 = .ok (.if_icmp .ne 112, 3) := by decide +kernel
theorem dX8_way_103 : decode cX8_way 103 = .ok (.iload 9, 2) := by decide +kernel
theorem dX8_way_105 : decode cX8_way 105 = .ok (.iconst 2, 1) := by decide +kernel
theorem dX8_way_106 : decode cX8_way 106 = .ok (.idiv, 1) := by decide +kernel
theorem dX8_way_107 : decode cX8_way 107 = .ok (.istore 10, 2) := by decide +kernel
theorem dX8_way_109 : decode cX8_way 109 = .ok (.iload 9, 2) := by decide +kernel
theorem dX8_way_111 : decode cX8_way 111 = .ok (.iconst 2, 1) := by decide +kernel
theorem dX8_way_112 : decode cX8_way 112 = .ok (.irem, 1) := by decide +kernel
theorem dX8_way_113 : decode cX8_way 113 = .ok (.istore 11, 2) := by decide +kernel
theorem dX8_way_115 : decode cX8_way 115 = .ok (.aload_n 0, 1) := by decide +kernel
theorem dX8_way_116 : decode cX8_way 116 = .ok (.iload 7, 2) := by decide +kernel
theorem dX8_way_118 : decode cX8_way 118 = .ok (.iload 11, 2) := by decide +kernel
theorem dX8_way_120 : decode cX8_way 120 = .ok (.iload 10, 2) := by decide +kernel
theorem dX8_way_122 : decode cX8_way 122 = .ok (.iload_n 2, 1) := by decide +kernel
theorem dX8_way_123 : decode cX8_way 123 = .ok (.invokevirtual 189, 3) := by decide +kernel
theorem dX8_way_126 : decode cX8_way 126 = .ok (.ifCond .eq 64, 3) := by decide +kernel
theorem dX8_way_129 : decode cX8_way 129 = .ok (.aload_n 0, 1) := by decide +kernel
theorem dX8_way_130 : decode cX8_way 130 = .ok (.iload 7, 2) := by decide +kernel
theorem dX8_way_132 : decode cX8_way 132 = .ok (.iload 11, 2) := by decide +kernel
theorem dX8_way_134 : decode cX8_way 134 = .ok (.iload 10, 2) := by decide +kernel
theorem dX8_way_136 : decode cX8_way 136 = .ok (.iload 5, 2) := by decide +kernel
theorem dX8_way_138 : decode cX8_way 138 = .ok (.bipush 6, 2) := by decide +kernel
theorem dX8_way_140 : decode cX8_way 140 = .ok (.if_icmp .ne 7, 3) := by decide +kernel
theorem dX8_way_143 : decode cX8_way 143 = .ok (.iconst (-1), 1) := by decide +kernel
theorem dX8_way_144 : decode cX8_way 144 = .ok (.goto 5, 3) := by decide +kernel
theorem dX8_way_147 : decode cX8_way 147 = .ok (.iload 5, 2) := by decide +kernel
theorem dX8_way_149 : decode cX8_way 149 = .ok (.iconst 0, 1) := by decide +kernel
theorem dX8_way_150 : decode cX8_way 150 = .ok (.invokevirtual 205, 3) := by decide +kernel
theorem dX8_way_153 : decode cX8_way 153 = .ok (.aload_n 0, 1) := by decide +kernel
theorem dX8_way_154 : decode cX8_way 154 = .ok (.getfield 52, 3) := by decide +kernel
theorem dX8_way_157 : decode cX8_way 157 = .ok (.bipush 7, 2) := by decide +kernel
theorem dX8_way_159 : decode cX8_way 159 = .ok (.iload 7, 2) := by decide +kernel
theorem dX8_way_161 : decode cX8_way 161 = .ok (.imul, 1) := by decide +kernel
theorem dX8_way_162 : decode cX8_way 162 = .ok (.bipush 7, 2) := by decide +kernel
theorem dX8_way_164 : decode cX8_way 164 = .ok (.iadd, 1) := by decide +kernel
theorem dX8_way_165 : decode cX8_way 165 = .ok (.iload 10, 2) := by decide +kernel
theorem dX8_way_167 : decode cX8_way 167 = .ok (.iadd, 1) := by decide +kernel
theorem dX8_way_168 : decode cX8_way 168 = .ok (.iaload, 1) := by decide +kernel
theorem dX8_way_169 : decode cX8_way 169 = .ok (.iadd, 1) := by decide +kernel
theorem dX8_way_170 : decode cX8_way 170 = .ok (.aload_n 0, 1) := by decide +kernel
theorem dX8_way_171 : decode cX8_way 171 = .ok (.getfield 52, 3) := by decide +kernel
theorem dX8_way_174 : decode cX8_way 174 = .ok (.bipush 7, 2) := by decide +kernel
theorem dX8_way_176 : decode cX8_way 176 = .ok (.iload 7, 2) := by decide +kernel
theorem dX8_way_178 : decode cX8_way 178 = .ok (.imul, 1) := by decide +kernel
theorem dX8_way_179 : decode cX8_way 179 = .ok (.iload 5, 2) := by decide +kernel
theorem dX8_way_181 : decode cX8_way 181 = .ok (.iadd, 1) := by decide +kernel
theorem dX8_way_182 : decode cX8_way 182 = .ok (.iaload, 1) := by decide +kernel
theorem dX8_way_183 : decode cX8_way 183 = .ok (.if_icmp .ne 7, 3) := by decide +kernel
theorem dX8_way_186 : decode cX8_way 186 = .ok (.iconst 1, 1) := by decide +kernel
theorem dX8_way_187 : decode cX8_way 187 = .ok (.goto 4, 3) := by decide +kernel
theorem dX8_way_190 : decode cX8_way 190 = .ok (.iconst 0, 1) := by decide +kernel
theorem dX8_way_191 : decode cX8_way 191 = .ok (.istore 12, 2) := by decide +kernel
theorem dX8_way_193 : decode cX8_way 193 = .ok (.iload 12, 2) := by decide +kernel
theorem dX8_way_195 : decode cX8_way 195 = .ok (.ifCond .eq 8, 3) := by decide +kernel
theorem dX8_way_198 : decode cX8_way 198 = .ok (.iload 9, 2) := by decide +kernel
theorem dX8_way_200 : decode cX8_way 200 = .ok (.goto 4, 3) := by decide +kernel
theorem dX8_way_203 : decode cX8_way 203 = .ok (.iconst (-1), 1) := by decide +kernel
theorem dX8_way_204 : decode cX8_way 204 = .ok (.istore 8, 2) := by decide +kernel
theorem dX8_way_206 : decode cX8_way 206 = .ok (.iinc 9 1, 3) := by decide +kernel
theorem dX8_way_209 : decode cX8_way 209 = .ok (.goto (-119), 3) := by decide +kernel
theorem dX8_way_212 : decode cX8_way 212 = .ok (.iload 8, 2) := by decide +kernel
theorem dX8_way_214 : decode cX8_way 214 = .ok (.iconst 2, 1) := by decide +kernel
theorem dX8_way_215 : decode cX8_way 215 = .ok (.idiv, 1) := by decide +kernel
theorem dX8_way_216 : decode cX8_way 216 = .ok (.istore 5, 2) := by decide +kernel
theorem dX8_way_218 : decode cX8_way 218 = .ok (.iload 8, 2) := by decide +kernel
theorem dX8_way_220 : decode cX8_way 220 = .ok (.iconst 2, 1) := by decide +kernel
theorem dX8_way_221 : decode cX8_way 221 = .ok (.irem, 1) := by decide +kernel
theorem dX8_way_222 : decode cX8_way 222 = .ok (.istore 6, 2) := by decide +kernel
theorem dX8_way_224 : decode cX8_way 224 = .ok (.iinc 7 1, 3) := by decide +kernel
theorem dX8_way_227 : decode cX8_way 227 = .ok (.goto (-149), 3) := by decide +kernel
theorem dX8_way_230 : decode cX8_way 230 = .ok (.iload 4, 2) := by decide +kernel
theorem dX8_way_232 : decode cX8_way 232 = .ok (.ifCond .ne 8, 3) := by decide +kernel
theorem dX8_way_235 : decode cX8_way 235 = .ok (.iload 5, 2) := by decide +kernel
theorem dX8_way_237 : decode cX8_way 237 = .ok (.goto 5, 3) := by decide +kernel
theorem dX8_way_240 : decode cX8_way 240 = .ok (.iload 6, 2) := by decide +kernel
theorem dX8_way_242 : decode cX8_way 242 = .ok (.ireturn, 1) := by decide +kernel
set_option maxRecDepth 20000 in
theorem ggX8_alone_X8_isGuild : GoodIn wsX8_alone wsX8_isGuild := goodIn_r _ [5, 6, 7, 8, 4, 9] (by decide +kernel) (by decide +kernel)
set_option maxRecDepth 20000 in
theorem gX8_alone_X8_isGuild : GoodIn wsX8_alone (va_wsS RX8 142 yX8_isGuild wsX8_isGuild) := goodIn_app (goodIn_of _ (by decide +kernel)) ggX8_alone_X8_isGuild
set_option maxRecDepth 20000 in
theorem ggX8_alone_X8_lay : GoodIn wsX8_alone wsX8_lay := goodIn_r _ [13, 14, 15, 16, 4, 17, 18, 19, 20, 21, 22, 23, 24, 25, 1, 26, 27, 28, 29, 30, 31, 32, 33, 34, 35, 36, 37, 38, 39, 40, 41, 42, 43, 44, 45, 46, 47, 48, 49, 50, 63, 64, 65, 66, 67, 68, 69, 70, 71, 72, 73, 74, 75, 76, 77, 78, 79, 80, 81, 82, 83, 84, 85, 86, 87, 88, 89] (by decide +kernel) (by decide +kernel)
set_option maxRecDepth 20000 in
theorem gX8_alone_X8_lay : GoodIn wsX8_alone (wsV RX8 199 RX8 yX8_lay wsX8_lay) := goodIn_app (goodIn_of _ (by decide +kernel)) ggX8_alone_X8_lay
set_option maxRecDepth 20000 in
theorem ggX8_alone_X8_makes : GoodIn wsX8_alone wsX8_makes := goodIn_r _ [54, 1, 55, 56, 57, 4, 58, 33, 59, 60, 61, 62, 63, 64, 65, 66, 67, 68, 69, 70, 71, 72, 73, 74, 75, 76, 77, 78, 79, 80, 81, 82, 83, 84, 85, 86, 87, 88, 89] (by decide +kernel) (by decide +kernel)
set_option maxRecDepth 20000 in
theorem gX8_alone_X8_makes : GoodIn wsX8_alone (wsV RX8 193 RX8 yX8_makes wsX8_makes) := goodIn_app (goodIn_of _ (by decide +kernel)) ggX8_alone_X8_makes
theorem dX8_alone_0 : decode cX8_alone 0 = .ok (.iload_n 1, 1) := by decide +kernel
theorem dX8_alone_1 : decode cX8_alone 1 = .ok (.invokestatic 142, 3) := by decide +kernel
theorem dX8_alone_4 : decode cX8_alone 4 = .ok (.ifCond .ne 6, 3) := by decide +kernel
theorem dX8_alone_7 : decode cX8_alone 7 = .ok (.bipush (-2), 2) := by decide +kernel
theorem dX8_alone_9 : decode cX8_alone 9 = .ok (.ireturn, 1) := by decide +kernel
theorem dX8_alone_10 : decode cX8_alone 10 = .ok (.iconst 0, 1) := by decide +kernel
theorem dX8_alone_11 : decode cX8_alone 11 = .ok (.istore_n 2, 1) := by decide +kernel
theorem dX8_alone_12 : decode cX8_alone 12 = .ok (.iconst 0, 1) := by decide +kernel
theorem dX8_alone_13 : decode cX8_alone 13 = .ok (.istore_n 3, 1) := by decide +kernel
theorem dX8_alone_14 : decode cX8_alone 14 = .ok (.iload_n 3, 1) := by decide +kernel
theorem dX8_alone_15 : decode cX8_alone 15 = .ok (.bipush 6, 2) := by decide +kernel
theorem dX8_alone_17 : decode cX8_alone 17 = .ok (.if_icmp .ge 41, 3) := by decide +kernel
theorem dX8_alone_20 : decode cX8_alone 20 = .ok (.aload_n 0, 1) := by decide +kernel
theorem dX8_alone_21 : decode cX8_alone 21 = .ok (.iload_n 3, 1) := by decide +kernel
theorem dX8_alone_22 : decode cX8_alone 22 = .ok (.invokevirtual 199, 3) := by decide +kernel
theorem dX8_alone_25 : decode cX8_alone 25 = .ok (.iload_n 2, 1) := by decide +kernel
theorem dX8_alone_26 : decode cX8_alone 26 = .ok (.aload_n 0, 1) := by decide +kernel
theorem dX8_alone_27 : decode cX8_alone 27 = .ok (.getfield 175, 3) := by decide +kernel
theorem dX8_alone_30 : decode cX8_alone 30 = .ok (.ifCond .le 19, 3) := by decide +kernel
theorem dX8_alone_33 : decode cX8_alone 33 = .ok (.aload_n 0, 1) := by decide +kernel
theorem dX8_alone_34 : decode cX8_alone 34 = .ok (.iconst 1, 1) := by decide +kernel
theorem dX8_alone_35 : decode cX8_alone 35 = .ok (.iload_n 1, 1) := by decide +kernel
theorem dX8_alone_36 : decode cX8_alone 36 = .ok (.ishl, 1) := by decide +kernel
theorem dX8_alone_37 : decode cX8_alone 37 = .ok (.invokevirtual 193, 3) := by decide +kernel
theorem dX8_alone_40 : decode cX8_alone 40 = .ok (.ifCond .eq 9, 3) := by decide +kernel
theorem dX8_alone_43 : decode cX8_alone 43 = .ok (.iconst 1, 1) := by decide +kernel
theorem dX8_alone_44 : decode cX8_alone 44 = .ok (.iload_n 3, 1) := by decide +kernel
theorem dX8_alone_45 : decode cX8_alone 45 = .ok (.ishl, 1) := by decide +kernel
theorem dX8_alone_46 : decode cX8_alone 46 = .ok (.goto 4, 3) := by decide +kernel
theorem dX8_alone_49 : decode cX8_alone 49 = .ok (.iconst 0, 1) := by decide +kernel
theorem dX8_alone_50 : decode cX8_alone 50 = .ok (.ior, 1) := by decide +kernel
theorem dX8_alone_51 : decode cX8_alone 51 = .ok (.istore_n 2, 1) := by decide +kernel
theorem dX8_alone_52 : decode cX8_alone 52 = .ok (.iinc 3 1, 3) := by decide +kernel
theorem dX8_alone_55 : decode cX8_alone 55 = .ok (.goto (-41), 3) := by decide +kernel
theorem dX8_alone_58 : decode cX8_alone 58 = .ok (.iload_n 2, 1) := by decide +kernel
theorem dX8_alone_59 : decode cX8_alone 59 = .ok (.ireturn, 1) := by decide +kernel
set_option maxRecDepth 20000 in
theorem ggX8_sly_X8_isThing : GoodIn wsX8_sly wsX8_isThing := goodIn_r _ [7, 8, 9, 10, 6, 11] (by decide +kernel) (by decide +kernel)
set_option maxRecDepth 20000 in
theorem gX8_sly_X8_isThing : GoodIn wsX8_sly (va_wsS RX8 165 yX8_isThing wsX8_isThing) := goodIn_app (goodIn_of _ (by decide +kernel)) ggX8_sly_X8_isThing
set_option maxRecDepth 20000 in
theorem ggX8_sly_X8_in : GoodIn wsX8_sly wsX8_in := goodIn_r _ [11] (by decide +kernel) (by decide +kernel)
set_option maxRecDepth 20000 in
theorem gX8_sly_X8_in : GoodIn wsX8_sly (va_wsS RX8 57 yX8_in wsX8_in) := goodIn_app (goodIn_of _ (by decide +kernel)) ggX8_sly_X8_in
set_option maxRecDepth 20000 in
theorem ggX8_sly_X8_lay : GoodIn wsX8_sly wsX8_lay := goodIn_r _ [15, 16, 17, 18, 6, 19, 20, 21, 22, 23, 24, 25, 26, 27, 2, 3, 28, 29, 30, 31, 32, 33, 34, 35, 36, 37, 38, 39, 40, 41, 42, 43, 44, 45, 46, 47, 48, 49, 50, 51, 75, 76, 77, 78, 79, 80, 81, 82, 83, 84, 85, 86, 87, 88, 89, 90, 91, 92, 93, 94, 95, 96, 97, 98, 99, 100, 101] (by decide +kernel) (by decide +kernel)
set_option maxRecDepth 20000 in
theorem gX8_sly_X8_lay : GoodIn wsX8_sly (wsV RX8 199 RX8 yX8_lay wsX8_lay) := goodIn_app (goodIn_of _ (by decide +kernel)) ggX8_sly_X8_lay
set_option maxRecDepth 20000 in
theorem ggX8_sly_X8_needed : GoodIn wsX8_sly wsX8_needed := goodIn_r _ [55, 56, 57, 58, 6, 59, 60, 61, 62, 63, 64, 65, 66, 2, 67, 68, 69, 70, 34, 71, 72, 73, 74, 75, 76, 77, 78, 79, 80, 81, 82, 83, 84, 85, 86, 87, 88, 89, 90, 91, 92, 93, 94, 95, 96, 97, 98, 99, 100, 101] (by decide +kernel) (by decide +kernel)
set_option maxRecDepth 20000 in
theorem gX8_sly_X8_needed : GoodIn wsX8_sly (wsV RX8 219 RX8 yX8_needed wsX8_needed) := goodIn_app (goodIn_of _ (by decide +kernel)) ggX8_sly_X8_needed
set_option maxRecDepth 20000 in
theorem ggX8_sly_X8_layCodes : GoodIn wsX8_sly wsX8_layCodes := goodIn_r _ [33, 2, 3, 34, 35, 36, 37, 6, 38, 39, 40, 41, 42, 43, 21, 44, 45, 46, 47, 22, 20, 48, 49, 50, 51, 75, 76, 77, 78, 79, 80, 81, 82, 83, 84, 85, 86, 87, 88, 89, 90, 91, 92, 93, 94, 95, 96, 97, 98, 99, 100, 101] (by decide +kernel) (by decide +kernel)
set_option maxRecDepth 20000 in
theorem gX8_sly_X8_layCodes : GoodIn wsX8_sly (wsV RX8 182 RX8 yX8_layCodes wsX8_layCodes) := goodIn_app (goodIn_of _ (by decide +kernel)) ggX8_sly_X8_layCodes
theorem dX8_sly_0 : decode cX8_sly 0 = .ok (.iload_n 1, 1) := by decide +kernel
theorem dX8_sly_1 : decode cX8_sly 1 = .ok (.invokestatic 165, 3) := by decide +kernel
theorem dX8_sly_4 : decode cX8_sly 4 = .ok (.ifCond .ne 6, 3) := by decide +kernel
theorem dX8_sly_7 : decode cX8_sly 7 = .ok (.bipush (-2), 2) := by decide +kernel
theorem dX8_sly_9 : decode cX8_sly 9 = .ok (.ireturn, 1) := by decide +kernel
theorem dX8_sly_10 : decode cX8_sly 10 = .ok (.iload_n 2, 1) := by decide +kernel
theorem dX8_sly_11 : decode cX8_sly 11 = .ok (.i2l, 1) := by decide +kernel
theorem dX8_sly_12 : decode cX8_sly 12 = .ok (.lconst 1, 1) := by decide +kernel
theorem dX8_sly_13 : decode cX8_sly 13 = .ok (.ldc2_w 170, 3) := by decide +kernel
theorem dX8_sly_16 : decode cX8_sly 16 = .ok (.invokestatic 57, 3) := by decide +kernel
theorem dX8_sly_19 : decode cX8_sly 19 = .ok (.ifCond .eq 13, 3) := by decide +kernel
theorem dX8_sly_22 : decode cX8_sly 22 = .ok (.iload_n 3, 1) := by decide +kernel
theorem dX8_sly_23 : decode cX8_sly 23 = .ok (.i2l, 1) := by decide +kernel
theorem dX8_sly_24 : decode cX8_sly 24 = .ok (.lconst 0, 1) := by decide +kernel
theorem dX8_sly_25 : decode cX8_sly 25 = .ok (.lconst 1, 1) := by decide +kernel
theorem dX8_sly_26 : decode cX8_sly 26 = .ok (.invokestatic 57, 3) := by decide +kernel
theorem dX8_sly_29 : decode cX8_sly 29 = .ok (.ifCond .ne 6, 3) := by decide +kernel
theorem dX8_sly_32 : decode cX8_sly 32 = .ok (.bipush (-3), 2) := by decide +kernel
theorem dX8_sly_34 : decode cX8_sly 34 = .ok (.ireturn, 1) := by decide +kernel
theorem dX8_sly_35 : decode cX8_sly 35 = .ok (.aload_n 0, 1) := by decide +kernel
theorem dX8_sly_36 : decode cX8_sly 36 = .ok (.iload_n 1, 1) := by decide +kernel
theorem dX8_sly_37 : decode cX8_sly 37 = .ok (.invokevirtual 199, 3) := by decide +kernel
theorem dX8_sly_40 : decode cX8_sly 40 = .ok (.aload_n 0, 1) := by decide +kernel
theorem dX8_sly_41 : decode cX8_sly 41 = .ok (.invokevirtual 219, 3) := by decide +kernel
theorem dX8_sly_44 : decode cX8_sly 44 = .ok (.istore 4, 2) := by decide +kernel
theorem dX8_sly_46 : decode cX8_sly 46 = .ok (.iconst (-1), 1) := by decide +kernel
theorem dX8_sly_47 : decode cX8_sly 47 = .ok (.istore 5, 2) := by decide +kernel
theorem dX8_sly_49 : decode cX8_sly 49 = .ok (.iconst 0, 1) := by decide +kernel
theorem dX8_sly_50 : decode cX8_sly 50 = .ok (.istore 6, 2) := by decide +kernel
theorem dX8_sly_52 : decode cX8_sly 52 = .ok (.iload 6, 2) := by decide +kernel
theorem dX8_sly_54 : decode cX8_sly 54 = .ok (.iconst 2, 1) := by decide +kernel
theorem dX8_sly_55 : decode cX8_sly 55 = .ok (.aload_n 0, 1) := by decide +kernel
theorem dX8_sly_56 : decode cX8_sly 56 = .ok (.getfield 175, 3) := by decide +kernel
theorem dX8_sly_59 : decode cX8_sly 59 = .ok (.imul, 1) := by decide +kernel
theorem dX8_sly_60 : decode cX8_sly 60 = .ok (.if_icmp .ge 157, 3) := by decide +kernel
theorem dX8_sly_63 : decode cX8_sly 63 = .ok (.aload_n 0, 1) := by decide +kernel
theorem dX8_sly_64 : decode cX8_sly 64 = .ok (.getfield 46, 3) := by decide +kernel
theorem dX8_sly_67 : decode cX8_sly 67 = .ok (.iload 6, 2) := by decide +kernel
theorem dX8_sly_69 : decode cX8_sly 69 = .ok (.iaload, 1) := by decide +kernel
theorem dX8_sly_70 : decode cX8_sly 70 = .ok (.istore 7, 2) := by decide +kernel
theorem dX8_sly_72 : decode cX8_sly 72 = .ok (.iconst 0, 1) := by decide +kernel
theorem dX8_sly_73 : decode cX8_sly 73 = .ok (.istore 8, 2) := by decide +kernel
theorem dX8_sly_75 : decode cX8_sly 75 = .ok (.iload 8, 2) := by decide +kernel
theorem dX8_sly_77 : decode cX8_sly 77 = .ok (.bipush 10, 2) := by decide +kernel
theorem dX8_sly_79 : decode cX8_sly 79 = .ok (.if_icmp .ge 123, 3) := by decide +kernel
theorem dX8_sly_82 : decode cX8_sly 82 = .ok (.iload 7, 2) := by decide +kernel
theorem dX8_sly_84 : decode cX8_sly 84 = .ok (.iconst (-1), 1) := by decide +kernel
theorem dX8_sly_85 : decode cX8_sly 85 = .ok (.if_icmp .eq 117, 3) := by decide +kernel
theorem dX8_sly_88 : decode cX8_sly 88 = .ok (.iload 7, 2) := by decide +kernel
theorem dX8_sly_90 : decode cX8_sly 90 = .ok (.bipush 10, 2) := by decide +kernel
theorem dX8_sly_92 : decode cX8_sly 92 = .ok (.irem, 1) := by decide +kernel
theorem dX8_sly_93 : decode cX8_sly 93 = .ok (.iload 8, 2) := by decide +kernel
theorem dX8_sly_95 : decode cX8_sly 95 = .ok (.if_icmp .le 14, 3) := by decide +kernel
theorem dX8_sly_98 : decode cX8_sly 98 = .ok (.iload 7, 2) := by decide +kernel
theorem dX8_sly_100 : decode cX8_sly 100 = .ok (.bipush 10, 2) := by decide +kernel
theorem dX8_sly_102 : decode cX8_sly 102 = .ok (.irem, 1) := by decide +kernel

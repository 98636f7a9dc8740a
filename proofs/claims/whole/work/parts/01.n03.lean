theorem dX1_slyestDepth_94 : decode cX1_slyestDepth 94 = .ok (.iconst (-1), 1) := by decide +kernel
theorem dX1_slyestDepth_95 : decode cX1_slyestDepth 95 = .ok (.invokevirtual 62, 3) := by decide +kernel
theorem dX1_slyestDepth_98 : decode cX1_slyestDepth 98 = .ok (.lstore 14, 2) := by decide +kernel
theorem dX1_slyestDepth_100 : decode cX1_slyestDepth 100 = .ok (.lload 5, 2) := by decide +kernel
theorem dX1_slyestDepth_102 : decode cX1_slyestDepth 102 = .ok (.lload 9, 2) := by decide +kernel
theorem dX1_slyestDepth_104 : decode cX1_slyestDepth 104 = .ok (.lload 14, 2) := by decide +kernel
theorem dX1_slyestDepth_106 : decode cX1_slyestDepth 106 = .ok (.lor, 1) := by decide +kernel
theorem dX1_slyestDepth_107 : decode cX1_slyestDepth 107 = .ok (.land, 1) := by decide +kernel
theorem dX1_slyestDepth_108 : decode cX1_slyestDepth 108 = .ok (.invokestatic 111, 3) := by decide +kernel
theorem dX1_slyestDepth_111 : decode cX1_slyestDepth 111 = .ok (.istore 16, 2) := by decide +kernel
theorem dX1_slyestDepth_113 : decode cX1_slyestDepth 113 = .ok (.iload 7, 2) := by decide +kernel
theorem dX1_slyestDepth_115 : decode cX1_slyestDepth 115 = .ok (.iload 16, 2) := by decide +kernel
theorem dX1_slyestDepth_117 : decode cX1_slyestDepth 117 = .ok (.sipush 160, 3) := by decide +kernel
theorem dX1_slyestDepth_120 : decode cX1_slyestDepth 120 = .ok (.imul, 1) := by decide +kernel
theorem dX1_slyestDepth_121 : decode cX1_slyestDepth 121 = .ok (.iload 11, 2) := by decide +kernel
theorem dX1_slyestDepth_123 : decode cX1_slyestDepth 123 = .ok (.iadd, 1) := by decide +kernel
theorem dX1_slyestDepth_124 : decode cX1_slyestDepth 124 = .ok (.iload 12, 2) := by decide +kernel
theorem dX1_slyestDepth_126 : decode cX1_slyestDepth 126 = .ok (.iadd, 1) := by decide +kernel
theorem dX1_slyestDepth_127 : decode cX1_slyestDepth 127 = .ok (.invokestatic 92, 3) := by decide +kernel
theorem dX1_slyestDepth_130 : decode cX1_slyestDepth 130 = .ok (.istore 7, 2) := by decide +kernel
theorem dX1_slyestDepth_132 : decode cX1_slyestDepth 132 = .ok (.iinc 12 1, 3) := by decide +kernel
theorem dX1_slyestDepth_135 : decode cX1_slyestDepth 135 = .ok (.goto (-86), 3) := by decide +kernel
theorem dX1_slyestDepth_138 : decode cX1_slyestDepth 138 = .ok (.iload 7, 2) := by decide +kernel
theorem dX1_slyestDepth_140 : decode cX1_slyestDepth 140 = .ok (.ireturn, 1) := by decide +kernel
set_option maxRecDepth 20000 in
theorem ggX1_fewestStruck_X1_boundsAround : GoodIn wsX1_fewestStruck wsX1_boundsAround := goodIn_r _ [11, 12, 1, 13, 14, 15, 16, 17, 18, 19, 20, 21, 22, 23, 24, 77, 78, 67, 68, 69, 70, 71, 72, 73, 74, 75, 76] (by decide +kernel) (by decide +kernel)
set_option maxRecDepth 20000 in
theorem gX1_fewestStruck_X1_boundsAround : GoodIn wsX1_fewestStruck (wsV RX1 122 RX1 yX1_boundsAround wsX1_boundsAround) := goodIn_app (goodIn_of _ (by decide +kernel)) ggX1_fewestStruck_X1_boundsAround
set_option maxRecDepth 20000 in
theorem ggX1_fewestStruck_X1_setsUpTo : GoodIn wsX1_fewestStruck wsX1_setsUpTo := goodIn_r _ [27, 28, 29, 30, 31, 32, 33, 34] (by decide +kernel) (by decide +kernel)
set_option maxRecDepth 20000 in
theorem gX1_fewestStruck_X1_setsUpTo : GoodIn wsX1_fewestStruck (va_wsS RX1 126 yX1_setsUpTo wsX1_setsUpTo) := goodIn_app (goodIn_of _ (by decide +kernel)) ggX1_fewestStruck_X1_setsUpTo
set_option maxRecDepth 20000 in
theorem ggX1_fewestStruck_J6_bitCount_0f7a4 : GoodIn wsX1_fewestStruck wsJ6_bitCount_0f7a4 := goodIn_r _ [31, 32, 33, 34] (by decide +kernel) (by decide +kernel)
set_option maxRecDepth 20000 in
theorem gX1_fewestStruck_J6_bitCount_0f7a4 : GoodIn wsX1_fewestStruck (va_wsS RX1 76 yJ6_bitCount_0f7a4 wsJ6_bitCount_0f7a4) := goodIn_app (goodIn_of _ (by decide +kernel)) ggX1_fewestStruck_J6_bitCount_0f7a4
set_option maxRecDepth 20000 in
theorem ggX1_fewestStruck_X1_setsForThing : GoodIn wsX1_fewestStruck wsX1_setsForThing := goodIn_r _ [38, 12, 13, 14, 15, 16, 17, 18, 39, 40, 41, 10, 42, 1, 43, 44, 45, 22, 46, 47, 48, 49, 50, 24, 51, 52, 53, 54, 55, 56, 30, 57, 58, 59, 60, 61, 62, 63, 64, 65, 66, 77, 78, 67, 68, 69, 70, 71, 72, 73, 74, 75, 76] (by decide +kernel) (by decide +kernel)
set_option maxRecDepth 20000 in
theorem gX1_fewestStruck_X1_setsForThing : GoodIn wsX1_fewestStruck (wsV RX1 68 RX1 yX1_setsForThing wsX1_setsForThing) := goodIn_app (goodIn_of _ (by decide +kernel)) ggX1_fewestStruck_X1_setsForThing
theorem dX1_fewestStruck_0 : decode cX1_fewestStruck 0 = .ok (.aload_n 0, 1) := by decide +kernel
theorem dX1_fewestStruck_1 : decode cX1_fewestStruck 1 = .ok (.getfield 15, 3) := by decide +kernel
theorem dX1_fewestStruck_4 : decode cX1_fewestStruck 4 = .ok (.getfield 121, 3) := by decide +kernel
theorem dX1_fewestStruck_7 : decode cX1_fewestStruck 7 = .ok (.bipush 10, 2) := by decide +kernel
theorem dX1_fewestStruck_9 : decode cX1_fewestStruck 9 = .ok (.invokestatic 92, 3) := by decide +kernel
theorem dX1_fewestStruck_12 : decode cX1_fewestStruck 12 = .ok (.istore_n 3, 1) := by decide +kernel
theorem dX1_fewestStruck_13 : decode cX1_fewestStruck 13 = .ok (.aload_n 0, 1) := by decide +kernel
theorem dX1_fewestStruck_14 : decode cX1_fewestStruck 14 = .ok (.aload_n 1, 1) := by decide +kernel
theorem dX1_fewestStruck_15 : decode cX1_fewestStruck 15 = .ok (.invokevirtual 122, 3) := by decide +kernel
theorem dX1_fewestStruck_18 : decode cX1_fewestStruck 18 = .ok (.iconst (-1), 1) := by decide +kernel
theorem dX1_fewestStruck_19 : decode cX1_fewestStruck 19 = .ok (.ixor, 1) := by decide +kernel
theorem dX1_fewestStruck_20 : decode cX1_fewestStruck 20 = .ok (.istore 4, 2) := by decide +kernel
theorem dX1_fewestStruck_22 : decode cX1_fewestStruck 22 = .ok (.iload_n 2, 1) := by decide +kernel
theorem dX1_fewestStruck_23 : decode cX1_fewestStruck 23 = .ok (.invokestatic 126, 3) := by decide +kernel
theorem dX1_fewestStruck_26 : decode cX1_fewestStruck 26 = .ok (.lstore 5, 2) := by decide +kernel
theorem dX1_fewestStruck_28 : decode cX1_fewestStruck 28 = .ok (.iconst 0, 1) := by decide +kernel
theorem dX1_fewestStruck_29 : decode cX1_fewestStruck 29 = .ok (.istore 7, 2) := by decide +kernel
theorem dX1_fewestStruck_31 : decode cX1_fewestStruck 31 = .ok (.iload 7, 2) := by decide +kernel
theorem dX1_fewestStruck_33 : decode cX1_fewestStruck 33 = .ok (.iload_n 3, 1) := by decide +kernel
theorem dX1_fewestStruck_34 : decode cX1_fewestStruck 34 = .ok (.if_icmp .gt 64, 3) := by decide +kernel
theorem dX1_fewestStruck_37 : decode cX1_fewestStruck 37 = .ok (.iconst 0, 1) := by decide +kernel
theorem dX1_fewestStruck_38 : decode cX1_fewestStruck 38 = .ok (.istore 8, 2) := by decide +kernel
theorem dX1_fewestStruck_40 : decode cX1_fewestStruck 40 = .ok (.iload 8, 2) := by decide +kernel
theorem dX1_fewestStruck_42 : decode cX1_fewestStruck 42 = .ok (.iconst 1, 1) := by decide +kernel
theorem dX1_fewestStruck_43 : decode cX1_fewestStruck 43 = .ok (.iload_n 3, 1) := by decide +kernel
theorem dX1_fewestStruck_44 : decode cX1_fewestStruck 44 = .ok (.ishl, 1) := by decide +kernel
theorem dX1_fewestStruck_45 : decode cX1_fewestStruck 45 = .ok (.if_icmp .ge 47, 3) := by decide +kernel
theorem dX1_fewestStruck_48 : decode cX1_fewestStruck 48 = .ok (.iload 8, 2) := by decide +kernel
theorem dX1_fewestStruck_50 : decode cX1_fewestStruck 50 = .ok (.invokestatic 76, 3) := by decide +kernel
theorem dX1_fewestStruck_53 : decode cX1_fewestStruck 53 = .ok (.iload 7, 2) := by decide +kernel
theorem dX1_fewestStruck_55 : decode cX1_fewestStruck 55 = .ok (.if_icmp .ne 31, 3) := by decide +kernel
theorem dX1_fewestStruck_58 : decode cX1_fewestStruck 58 = .ok (.iload 8, 2) := by decide +kernel
theorem dX1_fewestStruck_60 : decode cX1_fewestStruck 60 = .ok (.iload 4, 2) := by decide +kernel
theorem dX1_fewestStruck_62 : decode cX1_fewestStruck 62 = .ok (.iand, 1) := by decide +kernel
theorem dX1_fewestStruck_63 : decode cX1_fewestStruck 63 = .ok (.ifCond .ne 23, 3) := by decide +kernel
theorem dX1_fewestStruck_66 : decode cX1_fewestStruck 66 = .ok (.aload_n 0, 1) := by decide +kernel
theorem dX1_fewestStruck_67 : decode cX1_fewestStruck 67 = .ok (.aload_n 1, 1) := by decide +kernel
theorem dX1_fewestStruck_68 : decode cX1_fewestStruck 68 = .ok (.iconst (-1), 1) := by decide +kernel
theorem dX1_fewestStruck_69 : decode cX1_fewestStruck 69 = .ok (.iload 8, 2) := by decide +kernel
theorem dX1_fewestStruck_71 : decode cX1_fewestStruck 71 = .ok (.iconst (-1), 1) := by decide +kernel
theorem dX1_fewestStruck_72 : decode cX1_fewestStruck 72 = .ok (.ixor, 1) := by decide +kernel
theorem dX1_fewestStruck_73 : decode cX1_fewestStruck 73 = .ok (.lload 5, 2) := by decide +kernel
theorem dX1_fewestStruck_75 : decode cX1_fewestStruck 75 = .ok (.invokevirtual 68, 3) := by decide +kernel
theorem dX1_fewestStruck_78 : decode cX1_fewestStruck 78 = .ok (.lconst 0, 1) := by decide +kernel
theorem dX1_fewestStruck_79 : decode cX1_fewestStruck 79 = .ok (.lcmp, 1) := by decide +kernel
theorem dX1_fewestStruck_80 : decode cX1_fewestStruck 80 = .ok (.ifCond .eq 6, 3) := by decide +kernel
theorem dX1_fewestStruck_83 : decode cX1_fewestStruck 83 = .ok (.iload 8, 2) := by decide +kernel
theorem dX1_fewestStruck_85 : decode cX1_fewestStruck 85 = .ok (.ireturn, 1) := by decide +kernel
theorem dX1_fewestStruck_86 : decode cX1_fewestStruck 86 = .ok (.iinc 8 1, 3) := by decide +kernel
theorem dX1_fewestStruck_89 : decode cX1_fewestStruck 89 = .ok (.goto (-49), 3) := by decide +kernel
theorem dX1_fewestStruck_92 : decode cX1_fewestStruck 92 = .ok (.iinc 7 1, 3) := by decide +kernel
theorem dX1_fewestStruck_95 : decode cX1_fewestStruck 95 = .ok (.goto (-64), 3) := by decide +kernel
theorem dX1_fewestStruck_98 : decode cX1_fewestStruck 98 = .ok (.iconst (-1), 1) := by decide +kernel
theorem dX1_fewestStruck_99 : decode cX1_fewestStruck 99 = .ok (.ireturn, 1) := by decide +kernel
set_option maxRecDepth 20000 in
theorem ggX1_boundsAround_X6_workAt : GoodIn wsX1_boundsAround wsX6_workAt := goodIn_r _ [7, 8, 15, 16] (by decide +kernel) (by decide +kernel)
set_option maxRecDepth 20000 in
theorem gX1_boundsAround_X6_workAt : GoodIn wsX1_boundsAround (wsV RX1 23 RX6 yX6_workAt wsX6_workAt) := goodIn_app (goodIn_of _ (by decide +kernel)) ggX1_boundsAround_X6_workAt
set_option maxRecDepth 20000 in
theorem ggX1_boundsAround_X0_boundsAroundWork : GoodIn wsX1_boundsAround wsX0_boundsAroundWork := goodIn_r _ [13, 14, 20, 21, 22, 23, 24, 25, 26] (by decide +kernel) (by decide +kernel)
set_option maxRecDepth 20000 in
theorem gX1_boundsAround_X0_boundsAroundWork : GoodIn wsX1_boundsAround (wsV RX1 130 RX0 yX0_boundsAroundWork wsX0_boundsAroundWork) := goodIn_app (goodIn_of _ (by decide +kernel)) ggX1_boundsAround_X0_boundsAroundWork
theorem dX1_boundsAround_0 : decode cX1_boundsAround 0 = .ok (.iconst 0, 1) := by decide +kernel
theorem dX1_boundsAround_1 : decode cX1_boundsAround 1 = .ok (.istore_n 2, 1) := by decide +kernel
theorem dX1_boundsAround_2 : decode cX1_boundsAround 2 = .ok (.iconst 0, 1) := by decide +kernel
theorem dX1_boundsAround_3 : decode cX1_boundsAround 3 = .ok (.istore_n 3, 1) := by decide +kernel
theorem dX1_boundsAround_4 : decode cX1_boundsAround 4 = .ok (.iload_n 3, 1) := by decide +kernel
theorem dX1_boundsAround_5 : decode cX1_boundsAround 5 = .ok (.aload_n 1, 1) := by decide +kernel
theorem dX1_boundsAround_6 : decode cX1_boundsAround 6 = .ok (.getfield 29, 3) := by decide +kernel
theorem dX1_boundsAround_9 : decode cX1_boundsAround 9 = .ok (.if_icmp .ge 55, 3) := by decide +kernel
theorem dX1_boundsAround_12 : decode cX1_boundsAround 12 = .ok (.aload_n 1, 1) := by decide +kernel
theorem dX1_boundsAround_13 : decode cX1_boundsAround 13 = .ok (.iload_n 3, 1) := by decide +kernel
theorem dX1_boundsAround_14 : decode cX1_boundsAround 14 = .ok (.iconst 1, 1) := by decide +kernel
theorem dX1_boundsAround_15 : decode cX1_boundsAround 15 = .ok (.invokevirtual 23, 3) := by decide +kernel
theorem dX1_boundsAround_18 : decode cX1_boundsAround 18 = .ok (.istore 4, 2) := by decide +kernel
theorem dX1_boundsAround_20 : decode cX1_boundsAround 20 = .ok (.iload_n 2, 1) := by decide +kernel
theorem dX1_boundsAround_21 : decode cX1_boundsAround 21 = .ok (.aload_n 0, 1) := by decide +kernel
theorem dX1_boundsAround_22 : decode cX1_boundsAround 22 = .ok (.getfield 15, 3) := by decide +kernel
theorem dX1_boundsAround_25 : decode cX1_boundsAround 25 = .ok (.aload_n 1, 1) := by decide +kernel
theorem dX1_boundsAround_26 : decode cX1_boundsAround 26 = .ok (.iload_n 3, 1) := by decide +kernel
theorem dX1_boundsAround_27 : decode cX1_boundsAround 27 = .ok (.iconst 0, 1) := by decide +kernel
theorem dX1_boundsAround_28 : decode cX1_boundsAround 28 = .ok (.invokevirtual 23, 3) := by decide +kernel
theorem dX1_boundsAround_31 : decode cX1_boundsAround 31 = .ok (.invokevirtual 130, 3) := by decide +kernel
theorem dX1_boundsAround_34 : decode cX1_boundsAround 34 = .ok (.ior, 1) := by decide +kernel
theorem dX1_boundsAround_35 : decode cX1_boundsAround 35 = .ok (.istore_n 2, 1) := by decide +kernel
theorem dX1_boundsAround_36 : decode cX1_boundsAround 36 = .ok (.iload_n 2, 1) := by decide +kernel
theorem dX1_boundsAround_37 : decode cX1_boundsAround 37 = .ok (.iload 4, 2) := by decide +kernel
theorem dX1_boundsAround_39 : decode cX1_boundsAround 39 = .ok (.iconst (-1), 1) := by decide +kernel
theorem dX1_boundsAround_40 : decode cX1_boundsAround 40 = .ok (.if_icmp .ne 7, 3) := by decide +kernel
theorem dX1_boundsAround_43 : decode cX1_boundsAround 43 = .ok (.iconst 0, 1) := by decide +kernel
theorem dX1_boundsAround_44 : decode cX1_boundsAround 44 = .ok (.goto 12, 3) := by decide +kernel
theorem dX1_boundsAround_47 : decode cX1_boundsAround 47 = .ok (.aload_n 0, 1) := by decide +kernel
theorem dX1_boundsAround_48 : decode cX1_boundsAround 48 = .ok (.getfield 15, 3) := by decide +kernel
theorem dX1_boundsAround_51 : decode cX1_boundsAround 51 = .ok (.iload 4, 2) := by decide +kernel
theorem dX1_boundsAround_53 : decode cX1_boundsAround 53 = .ok (.invokevirtual 130, 3) := by decide +kernel
theorem dX1_boundsAround_56 : decode cX1_boundsAround 56 = .ok (.ior, 1) := by decide +kernel
theorem dX1_boundsAround_57 : decode cX1_boundsAround 57 = .ok (.istore_n 2, 1) := by decide +kernel
theorem dX1_boundsAround_58 : decode cX1_boundsAround 58 = .ok (.iinc 3 1, 3) := by decide +kernel
theorem dX1_boundsAround_61 : decode cX1_boundsAround 61 = .ok (.goto (-57), 3) := by decide +kernel
theorem dX1_boundsAround_64 : decode cX1_boundsAround 64 = .ok (.iload_n 2, 1) := by decide +kernel
theorem dX1_boundsAround_65 : decode cX1_boundsAround 65 = .ok (.ireturn, 1) := by decide +kernel
theorem dX2_init_0 : decode cX2_init 0 = .ok (.aload_n 0, 1) := by decide +kernel
theorem dX2_init_1 : decode cX2_init 1 = .ok (.invokespecial 3, 3) := by decide +kernel
theorem dX2_init_4 : decode cX2_init 4 = .ok (.aload_n 0, 1) := by decide +kernel
theorem dX2_init_5 : decode cX2_init 5 = .ok (.bipush 56, 2) := by decide +kernel
theorem dX2_init_7 : decode cX2_init 7 = .ok (.newarray .int, 2) := by decide +kernel
theorem dX2_init_9 : decode cX2_init 9 = .ok (.putfield 9, 3) := by decide +kernel
theorem dX2_init_12 : decode cX2_init 12 = .ok (.aload_n 0, 1) := by decide +kernel
theorem dX2_init_13 : decode cX2_init 13 = .ok (.aload_n 1, 1) := by decide +kernel
theorem dX2_init_14 : decode cX2_init 14 = .ok (.putfield 15, 3) := by decide +kernel
theorem dX2_init_17 : decode cX2_init 17 = .ok (.return_, 1) := by decide +kernel
set_option maxRecDepth 20000 in
theorem ggX2_readText_X2_nextToken : GoodIn wsX2_readText wsX2_nextToken := goodIn_r _ [9, 2, 3, 10, 11, 12, 4, 13, 14, 15, 8, 16, 98, 99, 100, 101, 102, 103, 104, 105] (by decide +kernel) (by decide +kernel)
set_option maxRecDepth 20000 in
theorem gX2_readText_X2_nextToken : GoodIn wsX2_readText (wsV RX2 26 RX2 yX2_nextToken wsX2_nextToken) := goodIn_app (goodIn_of _ (by decide +kernel)) ggX2_readText_X2_nextToken
set_option maxRecDepth 20000 in
theorem ggX2_readText_X2_readLine : GoodIn wsX2_readText wsX2_readLine := goodIn_r _ [20, 21, 22, 23, 24, 8, 25, 4, 2, 3, 10, 12, 26, 27, 28, 29, 30, 31, 32, 33, 34, 35, 36, 37, 38, 39, 40, 41, 42, 43, 44, 45, 46, 47, 48, 49, 50, 51, 52, 53, 54, 55, 56, 57, 58, 59, 60, 61, 62, 63, 64, 65, 66, 67, 68, 69, 70, 71, 72, 73, 74, 5, 6, 7, 9, 11, 13, 14, 15, 16, 75, 76, 77, 78, 79, 80, 81, 82, 83, 84, 85, 86, 87, 88, 89, 90, 91, 92, 93, 98, 99, 100, 101, 102, 103, 104, 105] (by decide +kernel) (by decide +kernel)
set_option maxRecDepth 20000 in
theorem gX2_readText_X2_readLine : GoodIn wsX2_readText (wsV RX2 29 RX2 yX2_readLine wsX2_readLine) := goodIn_app (goodIn_of _ (by decide +kernel)) ggX2_readText_X2_readLine
set_option maxRecDepth 20000 in
theorem ggX2_readText_X2_takeSemicolon : GoodIn wsX2_readText wsX2_takeSemicolon := goodIn_r _ [97, 4, 10, 12, 3, 5, 6, 7, 8, 9, 2, 11, 13, 14, 15, 16, 98, 99, 100, 101, 102, 103, 104, 105] (by decide +kernel) (by decide +kernel)
set_option maxRecDepth 20000 in
theorem gX2_readText_X2_takeSemicolon : GoodIn wsX2_readText (wsV RX2 36 RX2 yX2_takeSemicolon wsX2_takeSemicolon) := goodIn_app (goodIn_of _ (by decide +kernel)) ggX2_readText_X2_takeSemicolon
theorem dX2_readText_0 : decode cX2_readText 0 = .ok (.aload_n 0, 1) := by decide +kernel
theorem dX2_readText_1 : decode cX2_readText 1 = .ok (.iconst 0, 1) := by decide +kernel
theorem dX2_readText_2 : decode cX2_readText 2 = .ok (.putfield 19, 3) := by decide +kernel
theorem dX2_readText_5 : decode cX2_readText 5 = .ok (.aload_n 0, 1) := by decide +kernel
theorem dX2_readText_6 : decode cX2_readText 6 = .ok (.iconst 0, 1) := by decide +kernel
theorem dX2_readText_7 : decode cX2_readText 7 = .ok (.putfield 23, 3) := by decide +kernel
theorem dX2_readText_10 : decode cX2_readText 10 = .ok (.aload_n 0, 1) := by decide +kernel
theorem dX2_readText_11 : decode cX2_readText 11 = .ok (.invokevirtual 26, 3) := by decide +kernel
theorem dX2_readText_14 : decode cX2_readText 14 = .ok (.iconst 1, 1) := by decide +kernel
theorem dX2_readText_15 : decode cX2_readText 15 = .ok (.istore_n 1, 1) := by decide +kernel
theorem dX2_readText_16 : decode cX2_readText 16 = .ok (.iconst 0, 1) := by decide +kernel
theorem dX2_readText_17 : decode cX2_readText 17 = .ok (.istore_n 2, 1) := by decide +kernel
theorem dX2_readText_18 : decode cX2_readText 18 = .ok (.iload_n 2, 1) := by decide +kernel
theorem dX2_readText_19 : decode cX2_readText 19 = .ok (.bipush 8, 2) := by decide +kernel
theorem dX2_readText_21 : decode cX2_readText 21 = .ok (.if_icmp .ge 61, 3) := by decide +kernel
theorem dX2_readText_24 : decode cX2_readText 24 = .ok (.iload_n 1, 1) := by decide +kernel
theorem dX2_readText_25 : decode cX2_readText 25 = .ok (.ifCond .eq 57, 3) := by decide +kernel
theorem dX2_readText_28 : decode cX2_readText 28 = .ok (.aload_n 0, 1) := by decide +kernel
theorem dX2_readText_29 : decode cX2_readText 29 = .ok (.iload_n 2, 1) := by decide +kernel
theorem dX2_readText_30 : decode cX2_readText 30 = .ok (.bipush 7, 2) := by decide +kernel
theorem dX2_readText_32 : decode cX2_readText 32 = .ok (.imul, 1) := by decide +kernel
theorem dX2_readText_33 : decode cX2_readText 33 = .ok (.invokevirtual 29, 3) := by decide +kernel
theorem dX2_readText_36 : decode cX2_readText 36 = .ok (.ifCond .ne 8, 3) := by decide +kernel
theorem dX2_readText_39 : decode cX2_readText 39 = .ok (.aload_n 0, 1) := by decide +kernel
theorem dX2_readText_40 : decode cX2_readText 40 = .ok (.getfield 33, 3) := by decide +kernel
theorem dX2_readText_43 : decode cX2_readText 43 = .ok (.ireturn, 1) := by decide +kernel
theorem dX2_readText_44 : decode cX2_readText 44 = .ok (.aload_n 0, 1) := by decide +kernel
theorem dX2_readText_45 : decode cX2_readText 45 = .ok (.dup, 1) := by decide +kernel
theorem dX2_readText_46 : decode cX2_readText 46 = .ok (.getfield 19, 3) := by decide +kernel
theorem dX2_readText_49 : decode cX2_readText 49 = .ok (.iconst 1, 1) := by decide +kernel
theorem dX2_readText_50 : decode cX2_readText 50 = .ok (.iadd, 1) := by decide +kernel
theorem dX2_readText_51 : decode cX2_readText 51 = .ok (.putfield 19, 3) := by decide +kernel
theorem dX2_readText_54 : decode cX2_readText 54 = .ok (.aload_n 0, 1) := by decide +kernel
theorem dX2_readText_55 : decode cX2_readText 55 = .ok (.getfield 19, 3) := by decide +kernel
theorem dX2_readText_58 : decode cX2_readText 58 = .ok (.bipush 8, 2) := by decide +kernel
theorem dX2_readText_60 : decode cX2_readText 60 = .ok (.if_icmp .ge 14, 3) := by decide +kernel
theorem dX2_readText_63 : decode cX2_readText 63 = .ok (.aload_n 0, 1) := by decide +kernel
theorem dX2_readText_64 : decode cX2_readText 64 = .ok (.invokevirtual 36, 3) := by decide +kernel
theorem dX2_readText_67 : decode cX2_readText 67 = .ok (.ifCond .eq 7, 3) := by decide +kernel
theorem dX2_readText_70 : decode cX2_readText 70 = .ok (.iconst 1, 1) := by decide +kernel
theorem dX2_readText_71 : decode cX2_readText 71 = .ok (.goto 4, 3) := by decide +kernel
theorem dX2_readText_74 : decode cX2_readText 74 = .ok (.iconst 0, 1) := by decide +kernel
theorem dX2_readText_75 : decode cX2_readText 75 = .ok (.istore_n 1, 1) := by decide +kernel
theorem dX2_readText_76 : decode cX2_readText 76 = .ok (.iinc 2 1, 3) := by decide +kernel
theorem dX2_readText_79 : decode cX2_readText 79 = .ok (.goto (-61), 3) := by decide +kernel
theorem dX2_readText_82 : decode cX2_readText 82 = .ok (.aload_n 0, 1) := by decide +kernel
theorem dX2_readText_83 : decode cX2_readText 83 = .ok (.getfield 40, 3) := by decide +kernel
theorem dX2_readText_86 : decode cX2_readText 86 = .ok (.ifCond .ne 7, 3) := by decide +kernel
theorem dX2_readText_89 : decode cX2_readText 89 = .ok (.iconst (-1), 1) := by decide +kernel
theorem dX2_readText_90 : decode cX2_readText 90 = .ok (.goto 7, 3) := by decide +kernel
theorem dX2_readText_93 : decode cX2_readText 93 = .ok (.aload_n 0, 1) := by decide +kernel
theorem dX2_readText_94 : decode cX2_readText 94 = .ok (.getfield 33, 3) := by decide +kernel
theorem dX2_readText_97 : decode cX2_readText 97 = .ok (.ireturn, 1) := by decide +kernel
set_option maxRecDepth 20000 in
theorem ggX2_readLine_X2_takeWord : GoodIn wsX2_readLine wsX2_takeWord := goodIn_r _ [6, 7, 8, 9, 10, 11, 12, 13, 14, 15, 16, 17, 18, 19, 20, 21, 22, 23, 24, 25, 26, 27, 28, 29, 30, 31, 32, 33, 34, 35, 36, 37, 38, 39, 40, 41, 42, 43, 44, 45, 46, 47, 48, 49, 50, 51, 52, 53, 54, 55, 56, 57, 58, 59, 60, 61, 62, 63, 5, 64, 65, 66, 67, 68, 69, 89, 90, 91, 92, 93, 94, 95, 96] (by decide +kernel) (by decide +kernel)
set_option maxRecDepth 20000 in
theorem gX2_readLine_X2_takeWord : GoodIn wsX2_readLine (wsV RX2 45 RX2 yX2_takeWord wsX2_takeWord) := goodIn_app (goodIn_of _ (by decide +kernel)) ggX2_readLine_X2_takeWord
set_option maxRecDepth 20000 in
theorem ggX2_readLine_X2_takeNumber : GoodIn wsX2_readLine wsX2_takeNumber := goodIn_r _ [73, 7, 8, 9, 10, 11, 74, 75, 76, 61, 62, 63, 5, 64, 65, 66, 67, 68, 69, 89, 90, 91, 92, 93, 94, 95, 96] (by decide +kernel) (by decide +kernel)
set_option maxRecDepth 20000 in
theorem gX2_readLine_X2_takeNumber : GoodIn wsX2_readLine (wsV RX2 51 RX2 yX2_takeNumber wsX2_takeNumber) := goodIn_app (goodIn_of _ (by decide +kernel)) ggX2_readLine_X2_takeNumber
set_option maxRecDepth 20000 in
theorem ggX2_readLine_X2_takeSort : GoodIn wsX2_readLine wsX2_takeSort := goodIn_r _ [80, 2, 3, 4, 5, 6, 7, 8, 9, 10, 11, 12, 13, 14, 15, 16, 17, 18, 19, 20, 21, 22, 23, 24, 25, 26, 27, 28, 29, 30, 31, 32, 33, 34, 35, 36, 37, 38, 39, 40, 41, 42, 43, 44, 45, 46, 47, 48, 49, 50, 51, 52, 53, 54, 55, 56, 57, 58, 59, 60, 61, 62, 63, 64, 65, 66, 67, 68, 69, 89, 90, 91, 92, 93, 94, 95, 96] (by decide +kernel) (by decide +kernel)
set_option maxRecDepth 20000 in
theorem gX2_readLine_X2_takeSort : GoodIn wsX2_readLine (wsV RX2 55 RX2 yX2_takeSort wsX2_takeSort) := goodIn_app (goodIn_of _ (by decide +kernel)) ggX2_readLine_X2_takeSort
set_option maxRecDepth 20000 in
theorem ggX2_readLine_X2_readReach : GoodIn wsX2_readLine wsX2_readReach := goodIn_r _ [84, 1, 9, 2, 3, 4, 5, 6, 7, 8, 10, 11, 12, 13, 14, 15, 16, 17, 18, 19, 20, 21, 22, 23, 24, 25, 26, 27, 28, 29, 30, 31, 32, 33, 34, 35, 36, 37, 38, 39, 40, 41, 42, 43, 44, 45, 46, 47, 48, 49, 50, 51, 52, 53, 54, 55, 56, 57, 58, 59, 60, 61, 62, 63, 64, 65, 66, 67, 68, 69, 85, 86, 87, 88, 70, 71, 72, 73, 74, 75, 76, 89, 90, 91, 92, 93, 94, 95, 96] (by decide +kernel) (by decide +kernel)
set_option maxRecDepth 20000 in
theorem gX2_readLine_X2_readReach : GoodIn wsX2_readLine (wsV RX2 59 RX2 yX2_readReach wsX2_readReach) := goodIn_app (goodIn_of _ (by decide +kernel)) ggX2_readLine_X2_readReach
theorem dX2_readLine_0 : decode cX2_readLine 0 = .ok (.aload_n 0, 1) := by decide +kernel
theorem dX2_readLine_1 : decode cX2_readLine 1 = .ok (.ldc 43, 2) := by decide +kernel
theorem dX2_readLine_3 : decode cX2_readLine 3 = .ok (.invokevirtual 45, 3) := by decide +kernel
theorem dX2_readLine_6 : decode cX2_readLine 6 = .ok (.istore_n 2, 1) := by decide +kernel
theorem dX2_readLine_7 : decode cX2_readLine 7 = .ok (.iload_n 2, 1) := by decide +kernel
theorem dX2_readLine_8 : decode cX2_readLine 8 = .ok (.ifCond .ne 14, 3) := by decide +kernel
theorem dX2_readLine_11 : decode cX2_readLine 11 = .ok (.aload_n 0, 1) := by decide +kernel
theorem dX2_readLine_12 : decode cX2_readLine 12 = .ok (.ldc 49, 2) := by decide +kernel
theorem dX2_readLine_14 : decode cX2_readLine 14 = .ok (.invokevirtual 45, 3) := by decide +kernel
theorem dX2_readLine_17 : decode cX2_readLine 17 = .ok (.ifCond .ne 5, 3) := by decide +kernel
theorem dX2_readLine_20 : decode cX2_readLine 20 = .ok (.iconst 0, 1) := by decide +kernel
theorem dX2_readLine_21 : decode cX2_readLine 21 = .ok (.ireturn, 1) := by decide +kernel
theorem dX2_readLine_22 : decode cX2_readLine 22 = .ok (.aload_n 0, 1) := by decide +kernel
theorem dX2_readLine_23 : decode cX2_readLine 23 = .ok (.iconst 0, 1) := by decide +kernel
theorem dX2_readLine_24 : decode cX2_readLine 24 = .ok (.iconst 5, 1) := by decide +kernel
theorem dX2_readLine_25 : decode cX2_readLine 25 = .ok (.iconst (-1), 1) := by decide +kernel
theorem dX2_readLine_26 : decode cX2_readLine 26 = .ok (.invokevirtual 51, 3) := by decide +kernel
theorem dX2_readLine_29 : decode cX2_readLine 29 = .ok (.istore_n 3, 1) := by decide +kernel
theorem dX2_readLine_30 : decode cX2_readLine 30 = .ok (.iload_n 3, 1) := by decide +kernel
theorem dX2_readLine_31 : decode cX2_readLine 31 = .ok (.iconst (-1), 1) := by decide +kernel
theorem dX2_readLine_32 : decode cX2_readLine 32 = .ok (.if_icmp .ne 5, 3) := by decide +kernel
theorem dX2_readLine_35 : decode cX2_readLine 35 = .ok (.iconst 0, 1) := by decide +kernel
theorem dX2_readLine_36 : decode cX2_readLine 36 = .ok (.ireturn, 1) := by decide +kernel
theorem dX2_readLine_37 : decode cX2_readLine 37 = .ok (.iload_n 2, 1) := by decide +kernel
theorem dX2_readLine_38 : decode cX2_readLine 38 = .ok (.ifCond .eq 7, 3) := by decide +kernel
theorem dX2_readLine_41 : decode cX2_readLine 41 = .ok (.iconst 4, 1) := by decide +kernel
theorem dX2_readLine_42 : decode cX2_readLine 42 = .ok (.goto 7, 3) := by decide +kernel
theorem dX2_readLine_45 : decode cX2_readLine 45 = .ok (.aload_n 0, 1) := by decide +kernel
theorem dX2_readLine_46 : decode cX2_readLine 46 = .ok (.invokevirtual 55, 3) := by decide +kernel
theorem dX2_readLine_49 : decode cX2_readLine 49 = .ok (.istore 4, 2) := by decide +kernel
theorem dX2_readLine_51 : decode cX2_readLine 51 = .ok (.iload 4, 2) := by decide +kernel
theorem dX2_readLine_53 : decode cX2_readLine 53 = .ok (.iconst (-1), 1) := by decide +kernel
theorem dX2_readLine_54 : decode cX2_readLine 54 = .ok (.if_icmp .ne 5, 3) := by decide +kernel
theorem dX2_readLine_57 : decode cX2_readLine 57 = .ok (.iconst 0, 1) := by decide +kernel
theorem dX2_readLine_58 : decode cX2_readLine 58 = .ok (.ireturn, 1) := by decide +kernel
theorem dX2_readLine_59 : decode cX2_readLine 59 = .ok (.iload 4, 2) := by decide +kernel
theorem dX2_readLine_61 : decode cX2_readLine 61 = .ok (.iconst 3, 1) := by decide +kernel
theorem dX2_readLine_62 : decode cX2_readLine 62 = .ok (.if_icmp .ne 13, 3) := by decide +kernel
theorem dX2_readLine_65 : decode cX2_readLine 65 = .ok (.aload_n 0, 1) := by decide +kernel
theorem dX2_readLine_66 : decode cX2_readLine 66 = .ok (.iconst 0, 1) := by decide +kernel
theorem dX2_readLine_67 : decode cX2_readLine 67 = .ok (.iconst 5, 1) := by decide +kernel
theorem dX2_readLine_68 : decode cX2_readLine 68 = .ok (.iload_n 3, 1) := by decide +kernel
theorem dX2_readLine_69 : decode cX2_readLine 69 = .ok (.invokevirtual 51, 3) := by decide +kernel
theorem dX2_readLine_72 : decode cX2_readLine 72 = .ok (.goto 4, 3) := by decide +kernel
theorem dX2_readLine_75 : decode cX2_readLine 75 = .ok (.iconst (-1), 1) := by decide +kernel
theorem dX2_readLine_76 : decode cX2_readLine 76 = .ok (.istore 5, 2) := by decide +kernel
theorem dX2_readLine_78 : decode cX2_readLine 78 = .ok (.iload 4, 2) := by decide +kernel
theorem dX2_readLine_80 : decode cX2_readLine 80 = .ok (.iconst 3, 1) := by decide +kernel
theorem dX2_readLine_81 : decode cX2_readLine 81 = .ok (.if_icmp .ne 11, 3) := by decide +kernel
theorem dX2_readLine_84 : decode cX2_readLine 84 = .ok (.iload 5, 2) := by decide +kernel
theorem dX2_readLine_86 : decode cX2_readLine 86 = .ok (.iconst (-1), 1) := by decide +kernel
theorem dX2_readLine_87 : decode cX2_readLine 87 = .ok (.if_icmp .ne 5, 3) := by decide +kernel
theorem dX2_readLine_90 : decode cX2_readLine 90 = .ok (.iconst 0, 1) := by decide +kernel
theorem dX2_readLine_91 : decode cX2_readLine 91 = .ok (.ireturn, 1) := by decide +kernel
theorem dX2_readLine_92 : decode cX2_readLine 92 = .ok (.aload_n 0, 1) := by decide +kernel
theorem dX2_readLine_93 : decode cX2_readLine 93 = .ok (.getfield 9, 3) := by decide +kernel
theorem dX2_readLine_96 : decode cX2_readLine 96 = .ok (.iload_n 1, 1) := by decide +kernel
theorem dX2_readLine_97 : decode cX2_readLine 97 = .ok (.iconst 0, 1) := by decide +kernel
theorem dX2_readLine_98 : decode cX2_readLine 98 = .ok (.iadd, 1) := by decide +kernel
theorem dX2_readLine_99 : decode cX2_readLine 99 = .ok (.iload 4, 2) := by decide +kernel
theorem dX2_readLine_101 : decode cX2_readLine 101 = .ok (.iastore, 1) := by decide +kernel
theorem dX2_readLine_102 : decode cX2_readLine 102 = .ok (.aload_n 0, 1) := by decide +kernel
theorem dX2_readLine_103 : decode cX2_readLine 103 = .ok (.getfield 9, 3) := by decide +kernel
theorem dX2_readLine_106 : decode cX2_readLine 106 = .ok (.iload_n 1, 1) := by decide +kernel
theorem dX2_readLine_107 : decode cX2_readLine 107 = .ok (.iconst 1, 1) := by decide +kernel
theorem dX2_readLine_108 : decode cX2_readLine 108 = .ok (.iadd, 1) := by decide +kernel
theorem dX2_readLine_109 : decode cX2_readLine 109 = .ok (.iload_n 3, 1) := by decide +kernel
theorem dX2_readLine_110 : decode cX2_readLine 110 = .ok (.iastore, 1) := by decide +kernel
theorem dX2_readLine_111 : decode cX2_readLine 111 = .ok (.aload_n 0, 1) := by decide +kernel
theorem dX2_readLine_112 : decode cX2_readLine 112 = .ok (.getfield 9, 3) := by decide +kernel
theorem dX2_readLine_115 : decode cX2_readLine 115 = .ok (.iload_n 1, 1) := by decide +kernel
theorem dX2_readLine_116 : decode cX2_readLine 116 = .ok (.iconst 2, 1) := by decide +kernel
theorem dX2_readLine_117 : decode cX2_readLine 117 = .ok (.iadd, 1) := by decide +kernel
theorem dX2_readLine_118 : decode cX2_readLine 118 = .ok (.iload 5, 2) := by decide +kernel
theorem dX2_readLine_120 : decode cX2_readLine 120 = .ok (.iastore, 1) := by decide +kernel
theorem dX2_readLine_121 : decode cX2_readLine 121 = .ok (.aload_n 0, 1) := by decide +kernel
theorem dX2_readLine_122 : decode cX2_readLine 122 = .ok (.iload_n 1, 1) := by decide +kernel
theorem dX2_readLine_123 : decode cX2_readLine 123 = .ok (.invokevirtual 59, 3) := by decide +kernel
theorem dX2_readLine_126 : decode cX2_readLine 126 = .ok (.ireturn, 1) := by decide +kernel
set_option maxRecDepth 20000 in
theorem ggX2_readReach_X2_takeWord : GoodIn wsX2_readReach wsX2_takeWord := goodIn_r _ [7, 8, 9, 2, 10, 11, 12, 13, 14, 15, 16, 17, 18, 19, 20, 21, 22, 23, 24, 25, 26, 27, 28, 29, 30, 31, 32, 33, 34, 35, 36, 37, 38, 39, 40, 41, 42, 43, 44, 45, 46, 47, 48, 49, 50, 51, 52, 53, 54, 55, 56, 57, 58, 59, 60, 61, 62, 63, 6, 64, 65, 66, 67, 68, 69, 81, 82, 83, 84, 85, 86, 87, 88] (by decide +kernel) (by decide +kernel)
set_option maxRecDepth 20000 in
theorem gX2_readReach_X2_takeWord : GoodIn wsX2_readReach (wsV RX2 45 RX2 yX2_takeWord wsX2_takeWord) := goodIn_app (goodIn_of _ (by decide +kernel)) ggX2_readReach_X2_takeWord
set_option maxRecDepth 20000 in
theorem ggX2_readReach_X2_readPart : GoodIn wsX2_readReach wsX2_readPart := goodIn_r _ [73, 1, 3, 4, 5, 6, 7, 8, 9, 2, 10, 11, 12, 13, 14, 15, 16, 17, 18, 19, 20, 21, 22, 23, 24, 25, 26, 27, 28, 29, 30, 31, 32, 33, 34, 35, 36, 37, 38, 39, 40, 41, 42, 43, 44, 45, 46, 47, 48, 49, 50, 51, 52, 53, 54, 55, 56, 57, 58, 59, 60, 61, 62, 63, 64, 65, 66, 67, 68, 69, 74, 75, 76, 77, 78, 79, 80, 81, 82, 83, 84, 85, 86, 87, 88] (by decide +kernel) (by decide +kernel)
set_option maxRecDepth 20000 in
theorem gX2_readReach_X2_readPart : GoodIn wsX2_readReach (wsV RX2 66 RX2 yX2_readPart wsX2_readPart) := goodIn_app (goodIn_of _ (by decide +kernel)) ggX2_readReach_X2_readPart
theorem dX2_readReach_0 : decode cX2_readReach 0 = .ok (.aload_n 0, 1) := by decide +kernel
theorem dX2_readReach_1 : decode cX2_readReach 1 = .ok (.getfield 9, 3) := by decide +kernel
theorem dX2_readReach_4 : decode cX2_readReach 4 = .ok (.iload_n 1, 1) := by decide +kernel
theorem dX2_readReach_5 : decode cX2_readReach 5 = .ok (.iconst 3, 1) := by decide +kernel
theorem dX2_readReach_6 : decode cX2_readReach 6 = .ok (.iadd, 1) := by decide +kernel
theorem dX2_readReach_7 : decode cX2_readReach 7 = .ok (.iconst (-1), 1) := by decide +kernel
theorem dX2_readReach_8 : decode cX2_readReach 8 = .ok (.iastore, 1) := by decide +kernel
theorem dX2_readReach_9 : decode cX2_readReach 9 = .ok (.aload_n 0, 1) := by decide +kernel
theorem dX2_readReach_10 : decode cX2_readReach 10 = .ok (.getfield 9, 3) := by decide +kernel
theorem dX2_readReach_13 : decode cX2_readReach 13 = .ok (.iload_n 1, 1) := by decide +kernel
theorem dX2_readReach_14 : decode cX2_readReach 14 = .ok (.iconst 4, 1) := by decide +kernel
theorem dX2_readReach_15 : decode cX2_readReach 15 = .ok (.iadd, 1) := by decide +kernel
theorem dX2_readReach_16 : decode cX2_readReach 16 = .ok (.iconst (-1), 1) := by decide +kernel
theorem dX2_readReach_17 : decode cX2_readReach 17 = .ok (.iastore, 1) := by decide +kernel
theorem dX2_readReach_18 : decode cX2_readReach 18 = .ok (.aload_n 0, 1) := by decide +kernel
theorem dX2_readReach_19 : decode cX2_readReach 19 = .ok (.getfield 9, 3) := by decide +kernel
theorem dX2_readReach_22 : decode cX2_readReach 22 = .ok (.iload_n 1, 1) := by decide +kernel
theorem dX2_readReach_23 : decode cX2_readReach 23 = .ok (.iconst 5, 1) := by decide +kernel
theorem dX2_readReach_24 : decode cX2_readReach 24 = .ok (.iadd, 1) := by decide +kernel
theorem dX2_readReach_25 : decode cX2_readReach 25 = .ok (.iconst 0, 1) := by decide +kernel
theorem dX2_readReach_26 : decode cX2_readReach 26 = .ok (.iastore, 1) := by decide +kernel
theorem dX2_readReach_27 : decode cX2_readReach 27 = .ok (.aload_n 0, 1) := by decide +kernel
theorem dX2_readReach_28 : decode cX2_readReach 28 = .ok (.getfield 9, 3) := by decide +kernel
theorem dX2_readReach_31 : decode cX2_readReach 31 = .ok (.iload_n 1, 1) := by decide +kernel
theorem dX2_readReach_32 : decode cX2_readReach 32 = .ok (.bipush 6, 2) := by decide +kernel
theorem dX2_readReach_34 : decode cX2_readReach 34 = .ok (.iadd, 1) := by decide +kernel
theorem dX2_readReach_35 : decode cX2_readReach 35 = .ok (.bipush 9, 2) := by decide +kernel
theorem dX2_readReach_37 : decode cX2_readReach 37 = .ok (.iastore, 1) := by decide +kernel
theorem dX2_readReach_38 : decode cX2_readReach 38 = .ok (.aload_n 0, 1) := by decide +kernel
theorem dX2_readReach_39 : decode cX2_readReach 39 = .ok (.ldc 62, 2) := by decide +kernel
theorem dX2_readReach_41 : decode cX2_readReach 41 = .ok (.invokevirtual 45, 3) := by decide +kernel
theorem dX2_readReach_44 : decode cX2_readReach 44 = .ok (.ifCond .eq 5, 3) := by decide +kernel
theorem dX2_readReach_47 : decode cX2_readReach 47 = .ok (.iconst 1, 1) := by decide +kernel
theorem dX2_readReach_48 : decode cX2_readReach 48 = .ok (.ireturn, 1) := by decide +kernel
theorem dX2_readReach_49 : decode cX2_readReach 49 = .ok (.aload_n 0, 1) := by decide +kernel
theorem dX2_readReach_50 : decode cX2_readReach 50 = .ok (.getfield 33, 3) := by decide +kernel
theorem dX2_readReach_53 : decode cX2_readReach 53 = .ok (.istore_n 2, 1) := by decide +kernel
theorem dX2_readReach_54 : decode cX2_readReach 54 = .ok (.aload_n 0, 1) := by decide +kernel
theorem dX2_readReach_55 : decode cX2_readReach 55 = .ok (.ldc 64, 2) := by decide +kernel
theorem dX2_readReach_57 : decode cX2_readReach 57 = .ok (.iload_n 1, 1) := by decide +kernel
theorem dX2_readReach_58 : decode cX2_readReach 58 = .ok (.iconst 3, 1) := by decide +kernel
theorem dX2_readReach_59 : decode cX2_readReach 59 = .ok (.iadd, 1) := by decide +kernel
theorem dX2_readReach_60 : decode cX2_readReach 60 = .ok (.iconst 0, 1) := by decide +kernel
theorem dX2_readReach_61 : decode cX2_readReach 61 = .ok (.iconst 5, 1) := by decide +kernel
theorem dX2_readReach_62 : decode cX2_readReach 62 = .ok (.invokevirtual 66, 3) := by decide +kernel
theorem dX2_readReach_65 : decode cX2_readReach 65 = .ok (.ifCond .eq 67, 3) := by decide +kernel
theorem dX2_readReach_68 : decode cX2_readReach 68 = .ok (.aload_n 0, 1) := by decide +kernel
theorem dX2_readReach_69 : decode cX2_readReach 69 = .ok (.ldc 70, 2) := by decide +kernel
theorem dX2_readReach_71 : decode cX2_readReach 71 = .ok (.iload_n 1, 1) := by decide +kernel
theorem dX2_readReach_72 : decode cX2_readReach 72 = .ok (.iconst 4, 1) := by decide +kernel
theorem dX2_readReach_73 : decode cX2_readReach 73 = .ok (.iadd, 1) := by decide +kernel
theorem dX2_readReach_74 : decode cX2_readReach 74 = .ok (.iconst 0, 1) := by decide +kernel
theorem dX2_readReach_75 : decode cX2_readReach 75 = .ok (.iconst 3, 1) := by decide +kernel
theorem dX2_readReach_76 : decode cX2_readReach 76 = .ok (.invokevirtual 66, 3) := by decide +kernel
theorem dX2_readReach_79 : decode cX2_readReach 79 = .ok (.ifCond .eq 53, 3) := by decide +kernel
theorem dX2_readReach_82 : decode cX2_readReach 82 = .ok (.aload_n 0, 1) := by decide +kernel
theorem dX2_readReach_83 : decode cX2_readReach 83 = .ok (.ldc 72, 2) := by decide +kernel
theorem dX2_readReach_85 : decode cX2_readReach 85 = .ok (.iload_n 1, 1) := by decide +kernel
theorem dX2_readReach_86 : decode cX2_readReach 86 = .ok (.iconst 5, 1) := by decide +kernel
theorem dX2_readReach_87 : decode cX2_readReach 87 = .ok (.iadd, 1) := by decide +kernel
theorem dX2_readReach_88 : decode cX2_readReach 88 = .ok (.iconst 0, 1) := by decide +kernel
theorem dX2_readReach_89 : decode cX2_readReach 89 = .ok (.bipush 9, 2) := by decide +kernel
theorem dX2_readReach_91 : decode cX2_readReach 91 = .ok (.invokevirtual 66, 3) := by decide +kernel
theorem dX2_readReach_94 : decode cX2_readReach 94 = .ok (.ifCond .eq 38, 3) := by decide +kernel
theorem dX2_readReach_97 : decode cX2_readReach 97 = .ok (.aload_n 0, 1) := by decide +kernel
theorem dX2_readReach_98 : decode cX2_readReach 98 = .ok (.ldc 74, 2) := by decide +kernel
theorem dX2_readReach_100 : decode cX2_readReach 100 = .ok (.iload_n 1, 1) := by decide +kernel
theorem dX2_readReach_101 : decode cX2_readReach 101 = .ok (.bipush 6, 2) := by decide +kernel
theorem dX2_readReach_103 : decode cX2_readReach 103 = .ok (.iadd, 1) := by decide +kernel
theorem dX2_readReach_104 : decode cX2_readReach 104 = .ok (.aload_n 0, 1) := by decide +kernel
theorem dX2_readReach_105 : decode cX2_readReach 105 = .ok (.getfield 9, 3) := by decide +kernel
theorem dX2_readReach_108 : decode cX2_readReach 108 = .ok (.iload_n 1, 1) := by decide +kernel
theorem dX2_readReach_109 : decode cX2_readReach 109 = .ok (.iconst 5, 1) := by decide +kernel
theorem dX2_readReach_110 : decode cX2_readReach 110 = .ok (.iadd, 1) := by decide +kernel
theorem dX2_readReach_111 : decode cX2_readReach 111 = .ok (.iaload, 1) := by decide +kernel
theorem dX2_readReach_112 : decode cX2_readReach 112 = .ok (.bipush 9, 2) := by decide +kernel
theorem dX2_readReach_114 : decode cX2_readReach 114 = .ok (.invokevirtual 66, 3) := by decide +kernel
theorem dX2_readReach_117 : decode cX2_readReach 117 = .ok (.ifCond .eq 15, 3) := by decide +kernel
theorem dX2_readReach_120 : decode cX2_readReach 120 = .ok (.aload_n 0, 1) := by decide +kernel
theorem dX2_readReach_121 : decode cX2_readReach 121 = .ok (.getfield 33, 3) := by decide +kernel
theorem dX2_readReach_124 : decode cX2_readReach 124 = .ok (.iload_n 2, 1) := by decide +kernel
theorem dX2_readReach_125 : decode cX2_readReach 125 = .ok (.if_icmp .eq 7, 3) := by decide +kernel
theorem dX2_readReach_128 : decode cX2_readReach 128 = .ok (.iconst 1, 1) := by decide +kernel
theorem dX2_readReach_129 : decode cX2_readReach 129 = .ok (.goto 4, 3) := by decide +kernel
theorem dX2_readReach_132 : decode cX2_readReach 132 = .ok (.iconst 0, 1) := by decide +kernel
theorem dX2_readReach_133 : decode cX2_readReach 133 = .ok (.ireturn, 1) := by decide +kernel
set_option maxRecDepth 20000 in
theorem ggX2_readPart_X2_takeWord : GoodIn wsX2_readPart wsX2_takeWord := goodIn_r _ [6, 7, 8, 9, 10, 11, 12, 13, 14, 15, 16, 17, 18, 19, 20, 21, 22, 23, 24, 25, 26, 27, 28, 29, 30, 31, 32, 33, 34, 35, 36, 37, 38, 39, 40, 41, 42, 43, 44, 45, 46, 47, 48, 49, 50, 51, 52, 53, 54, 55, 56, 57, 58, 59, 60, 61, 62, 63, 5, 64, 65, 66, 67, 68, 69, 77, 78, 79, 80, 81, 82, 83, 84] (by decide +kernel) (by decide +kernel)
set_option maxRecDepth 20000 in
theorem gX2_readPart_X2_takeWord : GoodIn wsX2_readPart (wsV RX2 45 RX2 yX2_takeWord wsX2_takeWord) := goodIn_app (goodIn_of _ (by decide +kernel)) ggX2_readPart_X2_takeWord
set_option maxRecDepth 20000 in
theorem ggX2_readPart_X2_takeNumber : GoodIn wsX2_readPart wsX2_takeNumber := goodIn_r _ [73, 7, 8, 9, 10, 11, 74, 75, 76, 61, 62, 63, 5, 64, 65, 66, 67, 68, 69, 77, 78, 79, 80, 81, 82, 83, 84] (by decide +kernel) (by decide +kernel)
set_option maxRecDepth 20000 in
theorem gX2_readPart_X2_takeNumber : GoodIn wsX2_readPart (wsV RX2 51 RX2 yX2_takeNumber wsX2_takeNumber) := goodIn_app (goodIn_of _ (by decide +kernel)) ggX2_readPart_X2_takeNumber
theorem dX2_readPart_0 : decode cX2_readPart 0 = .ok (.aload_n 0, 1) := by decide +kernel
theorem dX2_readPart_1 : decode cX2_readPart 1 = .ok (.aload_n 1, 1) := by decide +kernel
theorem dX2_readPart_2 : decode cX2_readPart 2 = .ok (.invokevirtual 45, 3) := by decide +kernel
theorem dX2_readPart_5 : decode cX2_readPart 5 = .ok (.ifCond .ne 5, 3) := by decide +kernel
theorem dX2_readPart_8 : decode cX2_readPart 8 = .ok (.iconst 1, 1) := by decide +kernel
theorem dX2_readPart_9 : decode cX2_readPart 9 = .ok (.ireturn, 1) := by decide +kernel
theorem dX2_readPart_10 : decode cX2_readPart 10 = .ok (.aload_n 0, 1) := by decide +kernel
theorem dX2_readPart_11 : decode cX2_readPart 11 = .ok (.iload_n 3, 1) := by decide +kernel
theorem dX2_readPart_12 : decode cX2_readPart 12 = .ok (.iload 4, 2) := by decide +kernel
theorem dX2_readPart_14 : decode cX2_readPart 14 = .ok (.iconst (-1), 1) := by decide +kernel
theorem dX2_readPart_15 : decode cX2_readPart 15 = .ok (.invokevirtual 51, 3) := by decide +kernel
theorem dX2_readPart_18 : decode cX2_readPart 18 = .ok (.istore 5, 2) := by decide +kernel
theorem dX2_readPart_20 : decode cX2_readPart 20 = .ok (.iload 5, 2) := by decide +kernel
theorem dX2_readPart_22 : decode cX2_readPart 22 = .ok (.iconst (-1), 1) := by decide +kernel
theorem dX2_readPart_23 : decode cX2_readPart 23 = .ok (.if_icmp .ne 5, 3) := by decide +kernel
theorem dX2_readPart_26 : decode cX2_readPart 26 = .ok (.iconst 0, 1) := by decide +kernel
theorem dX2_readPart_27 : decode cX2_readPart 27 = .ok (.ireturn, 1) := by decide +kernel
theorem dX2_readPart_28 : decode cX2_readPart 28 = .ok (.aload_n 0, 1) := by decide +kernel
theorem dX2_readPart_29 : decode cX2_readPart 29 = .ok (.getfield 9, 3) := by decide +kernel
theorem dX2_readPart_32 : decode cX2_readPart 32 = .ok (.iload_n 2, 1) := by decide +kernel
theorem dX2_readPart_33 : decode cX2_readPart 33 = .ok (.iload 5, 2) := by decide +kernel
theorem dX2_readPart_35 : decode cX2_readPart 35 = .ok (.iastore, 1) := by decide +kernel
theorem dX2_readPart_36 : decode cX2_readPart 36 = .ok (.iconst 1, 1) := by decide +kernel
theorem dX2_readPart_37 : decode cX2_readPart 37 = .ok (.ireturn, 1) := by decide +kernel
set_option maxRecDepth 20000 in
theorem ggX2_takeSort_X2_takeWord : GoodIn wsX2_takeSort wsX2_takeWord := goodIn_r _ [5, 6, 7, 8, 9, 10, 11, 12, 13, 14, 15, 16, 17, 18, 19, 20, 21, 22, 23, 24, 25, 26, 27, 28, 29, 30, 31, 32, 33, 34, 35, 36, 37, 38, 39, 40, 41, 42, 43, 44, 45, 46, 47, 48, 49, 50, 51, 52, 53, 54, 55, 56, 57, 58, 59, 60, 61, 62, 4, 63, 64, 65, 66, 67, 68, 69, 70, 71, 72, 73, 74, 75, 76] (by decide +kernel) (by decide +kernel)
set_option maxRecDepth 20000 in
theorem gX2_takeSort_X2_takeWord : GoodIn wsX2_takeSort (wsV RX2 45 RX2 yX2_takeWord wsX2_takeWord) := goodIn_app (goodIn_of _ (by decide +kernel)) ggX2_takeSort_X2_takeWord
theorem dX2_takeSort_0 : decode cX2_takeSort 0 = .ok (.aload_n 0, 1) := by decide +kernel
theorem dX2_takeSort_1 : decode cX2_takeSort 1 = .ok (.ldc 76, 2) := by decide +kernel
theorem dX2_takeSort_3 : decode cX2_takeSort 3 = .ok (.invokevirtual 45, 3) := by decide +kernel
theorem dX2_takeSort_6 : decode cX2_takeSort 6 = .ok (.ifCond .eq 5, 3) := by decide +kernel
theorem dX2_takeSort_9 : decode cX2_takeSort 9 = .ok (.iconst 0, 1) := by decide +kernel
theorem dX2_takeSort_10 : decode cX2_takeSort 10 = .ok (.ireturn, 1) := by decide +kernel
theorem dX2_takeSort_11 : decode cX2_takeSort 11 = .ok (.aload_n 0, 1) := by decide +kernel
theorem dX2_takeSort_12 : decode cX2_takeSort 12 = .ok (.ldc 78, 2) := by decide +kernel
theorem dX2_takeSort_14 : decode cX2_takeSort 14 = .ok (.invokevirtual 45, 3) := by decide +kernel
theorem dX2_takeSort_17 : decode cX2_takeSort 17 = .ok (.ifCond .eq 5, 3) := by decide +kernel
theorem dX2_takeSort_20 : decode cX2_takeSort 20 = .ok (.iconst 1, 1) := by decide +kernel
theorem dX2_takeSort_21 : decode cX2_takeSort 21 = .ok (.ireturn, 1) := by decide +kernel
theorem dX2_takeSort_22 : decode cX2_takeSort 22 = .ok (.aload_n 0, 1) := by decide +kernel
theorem dX2_takeSort_23 : decode cX2_takeSort 23 = .ok (.ldc 80, 2) := by decide +kernel
theorem dX2_takeSort_25 : decode cX2_takeSort 25 = .ok (.invokevirtual 45, 3) := by decide +kernel
theorem dX2_takeSort_28 : decode cX2_takeSort 28 = .ok (.ifCond .eq 5, 3) := by decide +kernel
theorem dX2_takeSort_31 : decode cX2_takeSort 31 = .ok (.iconst 2, 1) := by decide +kernel
theorem dX2_takeSort_32 : decode cX2_takeSort 32 = .ok (.ireturn, 1) := by decide +kernel
theorem dX2_takeSort_33 : decode cX2_takeSort 33 = .ok (.aload_n 0, 1) := by decide +kernel
theorem dX2_takeSort_34 : decode cX2_takeSort 34 = .ok (.ldc 82, 2) := by decide +kernel
theorem dX2_takeSort_36 : decode cX2_takeSort 36 = .ok (.invokevirtual 45, 3) := by decide +kernel
theorem dX2_takeSort_39 : decode cX2_takeSort 39 = .ok (.ifCond .eq 7, 3) := by decide +kernel
theorem dX2_takeSort_42 : decode cX2_takeSort 42 = .ok (.iconst 3, 1) := by decide +kernel
theorem dX2_takeSort_43 : decode cX2_takeSort 43 = .ok (.goto 4, 3) := by decide +kernel
theorem dX2_takeSort_46 : decode cX2_takeSort 46 = .ok (.iconst (-1), 1) := by decide +kernel
theorem dX2_takeSort_47 : decode cX2_takeSort 47 = .ok (.ireturn, 1) := by decide +kernel
set_option maxRecDepth 20000 in
theorem ggX2_takeWord_J0_length_8abf5 : GoodIn wsX2_takeWord wsJ0_length_8abf5 := goodIn_r _ [10, 11, 12, 13, 14, 9, 15, 16, 17] (by decide +kernel) (by decide +kernel)
set_option maxRecDepth 20000 in
theorem gX2_takeWord_J0_length_8abf5 : GoodIn wsX2_takeWord (wsV RX2 84 RJ0 yJ0_length_8abf5 wsJ0_length_8abf5) := goodIn_app (goodIn_of _ (by decide +kernel)) ggX2_takeWord_J0_length_8abf5
set_option maxRecDepth 20000 in
theorem ggX2_takeWord_J0_charAt_5068e : GoodIn wsX2_takeWord wsJ0_charAt_5068e := goodIn_r _ [21, 11, 22, 23, 24, 9, 25, 16, 17, 26, 27, 28, 29, 30, 31, 32, 33, 34, 35, 36, 37, 38, 39, 40, 41, 42, 43, 44, 45, 46, 47, 48, 49, 50, 51, 52, 53, 54] (by decide +kernel) (by decide +kernel)
set_option maxRecDepth 20000 in
theorem gX2_takeWord_J0_charAt_5068e : GoodIn wsX2_takeWord (wsV RX2 94 RJ0 yJ0_charAt_5068e wsJ0_charAt_5068e) := goodIn_app (goodIn_of _ (by decide +kernel)) ggX2_takeWord_J0_charAt_5068e
set_option maxRecDepth 20000 in
theorem ggX2_takeWord_X2_nextToken : GoodIn wsX2_takeWord wsX2_nextToken := goodIn_r _ [59, 2, 3, 4, 60, 5, 1, 61, 62, 63, 58, 64, 65, 66, 67, 68, 69, 70, 71, 72] (by decide +kernel) (by decide +kernel)
set_option maxRecDepth 20000 in
theorem gX2_takeWord_X2_nextToken : GoodIn wsX2_takeWord (wsV RX2 26 RX2 yX2_nextToken wsX2_nextToken) := goodIn_app (goodIn_of _ (by decide +kernel)) ggX2_takeWord_X2_nextToken
theorem dX2_takeWord_0 : decode cX2_takeWord 0 = .ok (.aload_n 0, 1) := by decide +kernel
theorem dX2_takeWord_1 : decode cX2_takeWord 1 = .ok (.getfield 40, 3) := by decide +kernel
theorem dX2_takeWord_4 : decode cX2_takeWord 4 = .ok (.iconst 1, 1) := by decide +kernel
theorem dX2_takeWord_5 : decode cX2_takeWord 5 = .ok (.if_icmp .ne 19, 3) := by decide +kernel
theorem dX2_takeWord_8 : decode cX2_takeWord 8 = .ok (.aload_n 0, 1) := by decide +kernel
theorem dX2_takeWord_9 : decode cX2_takeWord 9 = .ok (.getfield 23, 3) := by decide +kernel
theorem dX2_takeWord_12 : decode cX2_takeWord 12 = .ok (.aload_n 0, 1) := by decide +kernel
theorem dX2_takeWord_13 : decode cX2_takeWord 13 = .ok (.getfield 33, 3) := by decide +kernel
theorem dX2_takeWord_16 : decode cX2_takeWord 16 = .ok (.isub, 1) := by decide +kernel
theorem dX2_takeWord_17 : decode cX2_takeWord 17 = .ok (.aload_n 1, 1) := by decide +kernel
theorem dX2_takeWord_18 : decode cX2_takeWord 18 = .ok (.invokevirtual 84, 3) := by decide +kernel
theorem dX2_takeWord_21 : decode cX2_takeWord 21 = .ok (.if_icmp .eq 5, 3) := by decide +kernel
theorem dX2_takeWord_24 : decode cX2_takeWord 24 = .ok (.iconst 0, 1) := by decide +kernel
theorem dX2_takeWord_25 : decode cX2_takeWord 25 = .ok (.ireturn, 1) := by decide +kernel
theorem dX2_takeWord_26 : decode cX2_takeWord 26 = .ok (.iconst 0, 1) := by decide +kernel
theorem dX2_takeWord_27 : decode cX2_takeWord 27 = .ok (.istore_n 2, 1) := by decide +kernel
theorem dX2_takeWord_28 : decode cX2_takeWord 28 = .ok (.iload_n 2, 1) := by decide +kernel
theorem dX2_takeWord_29 : decode cX2_takeWord 29 = .ok (.aload_n 1, 1) := by decide +kernel
theorem dX2_takeWord_30 : decode cX2_takeWord 30 = .ok (.invokevirtual 84, 3) := by decide +kernel
theorem dX2_takeWord_33 : decode cX2_takeWord 33 = .ok (.if_icmp .ge 33, 3) := by decide +kernel
theorem dX2_takeWord_36 : decode cX2_takeWord 36 = .ok (.aload_n 0, 1) := by decide +kernel
theorem dX2_takeWord_37 : decode cX2_takeWord 37 = .ok (.getfield 15, 3) := by decide +kernel
theorem dX2_takeWord_40 : decode cX2_takeWord 40 = .ok (.getfield 89, 3) := by decide +kernel
theorem dX2_takeWord_43 : decode cX2_takeWord 43 = .ok (.aload_n 0, 1) := by decide +kernel
theorem dX2_takeWord_44 : decode cX2_takeWord 44 = .ok (.getfield 33, 3) := by decide +kernel
theorem dX2_takeWord_47 : decode cX2_takeWord 47 = .ok (.iload_n 2, 1) := by decide +kernel
theorem dX2_takeWord_48 : decode cX2_takeWord 48 = .ok (.iadd, 1) := by decide +kernel
theorem dX2_takeWord_49 : decode cX2_takeWord 49 = .ok (.iaload, 1) := by decide +kernel
theorem dX2_takeWord_50 : decode cX2_takeWord 50 = .ok (.aload_n 1, 1) := by decide +kernel
theorem dX2_takeWord_51 : decode cX2_takeWord 51 = .ok (.iload_n 2, 1) := by decide +kernel
theorem dX2_takeWord_52 : decode cX2_takeWord 52 = .ok (.invokevirtual 94, 3) := by decide +kernel
theorem dX2_takeWord_55 : decode cX2_takeWord 55 = .ok (.if_icmp .eq 5, 3) := by decide +kernel
theorem dX2_takeWord_58 : decode cX2_takeWord 58 = .ok (.iconst 0, 1) := by decide +kernel
theorem dX2_takeWord_59 : decode cX2_takeWord 59 = .ok (.ireturn, 1) := by decide +kernel
theorem dX2_takeWord_60 : decode cX2_takeWord 60 = .ok (.iinc 2 1, 3) := by decide +kernel
theorem dX2_takeWord_63 : decode cX2_takeWord 63 = .ok (.goto (-35), 3) := by decide +kernel
theorem dX2_takeWord_66 : decode cX2_takeWord 66 = .ok (.aload_n 0, 1) := by decide +kernel
theorem dX2_takeWord_67 : decode cX2_takeWord 67 = .ok (.invokevirtual 26, 3) := by decide +kernel
theorem dX2_takeWord_70 : decode cX2_takeWord 70 = .ok (.iconst 1, 1) := by decide +kernel
theorem dX2_takeWord_71 : decode cX2_takeWord 71 = .ok (.ireturn, 1) := by decide +kernel
set_option maxRecDepth 20000 in
theorem ggX2_takeSemicolon_X2_nextToken : GoodIn wsX2_takeSemicolon wsX2_nextToken := goodIn_r _ [9, 10, 4, 2, 11, 3, 1, 12, 13, 14, 8, 15, 16, 17, 18, 19, 20, 21, 22, 23] (by decide +kernel) (by decide +kernel)
set_option maxRecDepth 20000 in
theorem gX2_takeSemicolon_X2_nextToken : GoodIn wsX2_takeSemicolon (wsV RX2 26 RX2 yX2_nextToken wsX2_nextToken) := goodIn_app (goodIn_of _ (by decide +kernel)) ggX2_takeSemicolon_X2_nextToken
theorem dX2_takeSemicolon_0 : decode cX2_takeSemicolon 0 = .ok (.aload_n 0, 1) := by decide +kernel
theorem dX2_takeSemicolon_1 : decode cX2_takeSemicolon 1 = .ok (.getfield 40, 3) := by decide +kernel
theorem dX2_takeSemicolon_4 : decode cX2_takeSemicolon 4 = .ok (.iconst 3, 1) := by decide +kernel
theorem dX2_takeSemicolon_5 : decode cX2_takeSemicolon 5 = .ok (.if_icmp .ne 20, 3) := by decide +kernel
theorem dX2_takeSemicolon_8 : decode cX2_takeSemicolon 8 = .ok (.aload_n 0, 1) := by decide +kernel
theorem dX2_takeSemicolon_9 : decode cX2_takeSemicolon 9 = .ok (.getfield 15, 3) := by decide +kernel
theorem dX2_takeSemicolon_12 : decode cX2_takeSemicolon 12 = .ok (.getfield 89, 3) := by decide +kernel
theorem dX2_takeSemicolon_15 : decode cX2_takeSemicolon 15 = .ok (.aload_n 0, 1) := by decide +kernel
theorem dX2_takeSemicolon_16 : decode cX2_takeSemicolon 16 = .ok (.getfield 33, 3) := by decide +kernel
theorem dX2_takeSemicolon_19 : decode cX2_takeSemicolon 19 = .ok (.iaload, 1) := by decide +kernel
theorem dX2_takeSemicolon_20 : decode cX2_takeSemicolon 20 = .ok (.bipush 59, 2) := by decide +kernel
theorem dX2_takeSemicolon_22 : decode cX2_takeSemicolon 22 = .ok (.if_icmp .eq 5, 3) := by decide +kernel
theorem dX2_takeSemicolon_25 : decode cX2_takeSemicolon 25 = .ok (.iconst 0, 1) := by decide +kernel
theorem dX2_takeSemicolon_26 : decode cX2_takeSemicolon 26 = .ok (.ireturn, 1) := by decide +kernel
theorem dX2_takeSemicolon_27 : decode cX2_takeSemicolon 27 = .ok (.aload_n 0, 1) := by decide +kernel
theorem dX2_takeSemicolon_28 : decode cX2_takeSemicolon 28 = .ok (.invokevirtual 26, 3) := by decide +kernel
theorem dX2_takeSemicolon_31 : decode cX2_takeSemicolon 31 = .ok (.iconst 1, 1) := by decide +kernel
theorem dX2_takeSemicolon_32 : decode cX2_takeSemicolon 32 = .ok (.ireturn, 1) := by decide +kernel
set_option maxRecDepth 20000 in
theorem ggX2_takeNumber_X7_isOff : GoodIn wsX2_takeNumber wsX7_isOff := goodIn_r _ [8] (by decide +kernel) (by decide +kernel)
set_option maxRecDepth 20000 in
theorem gX2_takeNumber_X7_isOff_n98 : GoodIn wsX2_takeNumber (wsX7_isOff) := ggX2_takeNumber_X7_isOff
set_option maxRecDepth 20000 in
theorem ggX2_takeNumber_X2_nextToken : GoodIn wsX2_takeNumber wsX2_nextToken := goodIn_r _ [13, 2, 3, 4, 14, 5, 1, 15, 16, 17, 12, 18, 19, 20, 21, 22, 23, 24, 25, 26] (by decide +kernel) (by decide +kernel)
set_option maxRecDepth 20000 in
theorem gX2_takeNumber_X2_nextToken : GoodIn wsX2_takeNumber (wsV RX2 26 RX2 yX2_nextToken wsX2_nextToken) := goodIn_app (goodIn_of _ (by decide +kernel)) ggX2_takeNumber_X2_nextToken
theorem dX2_takeNumber_0 : decode cX2_takeNumber 0 = .ok (.aload_n 0, 1) := by decide +kernel
theorem dX2_takeNumber_1 : decode cX2_takeNumber 1 = .ok (.getfield 40, 3) := by decide +kernel
theorem dX2_takeNumber_4 : decode cX2_takeNumber 4 = .ok (.iconst 2, 1) := by decide +kernel
theorem dX2_takeNumber_5 : decode cX2_takeNumber 5 = .ok (.if_icmp .ne 16, 3) := by decide +kernel
theorem dX2_takeNumber_8 : decode cX2_takeNumber 8 = .ok (.aload_n 0, 1) := by decide +kernel
theorem dX2_takeNumber_9 : decode cX2_takeNumber 9 = .ok (.getfield 23, 3) := by decide +kernel
theorem dX2_takeNumber_12 : decode cX2_takeNumber 12 = .ok (.aload_n 0, 1) := by decide +kernel
theorem dX2_takeNumber_13 : decode cX2_takeNumber 13 = .ok (.getfield 33, 3) := by decide +kernel
theorem dX2_takeNumber_16 : decode cX2_takeNumber 16 = .ok (.isub, 1) := by decide +kernel
theorem dX2_takeNumber_17 : decode cX2_takeNumber 17 = .ok (.iconst 1, 1) := by decide +kernel
theorem dX2_takeNumber_18 : decode cX2_takeNumber 18 = .ok (.if_icmp .eq 5, 3) := by decide +kernel
theorem dX2_takeNumber_21 : decode cX2_takeNumber 21 = .ok (.iconst (-1), 1) := by decide +kernel
theorem dX2_takeNumber_22 : decode cX2_takeNumber 22 = .ok (.ireturn, 1) := by decide +kernel
theorem dX2_takeNumber_23 : decode cX2_takeNumber 23 = .ok (.aload_n 0, 1) := by decide +kernel
theorem dX2_takeNumber_24 : decode cX2_takeNumber 24 = .ok (.getfield 15, 3) := by decide +kernel
theorem dX2_takeNumber_27 : decode cX2_takeNumber 27 = .ok (.getfield 89, 3) := by decide +kernel
theorem dX2_takeNumber_30 : decode cX2_takeNumber 30 = .ok (.aload_n 0, 1) := by decide +kernel
theorem dX2_takeNumber_31 : decode cX2_takeNumber 31 = .ok (.getfield 33, 3) := by decide +kernel
theorem dX2_takeNumber_34 : decode cX2_takeNumber 34 = .ok (.iaload, 1) := by decide +kernel
theorem dX2_takeNumber_35 : decode cX2_takeNumber 35 = .ok (.bipush 48, 2) := by decide +kernel
theorem dX2_takeNumber_37 : decode cX2_takeNumber 37 = .ok (.isub, 1) := by decide +kernel
theorem dX2_takeNumber_38 : decode cX2_takeNumber 38 = .ok (.istore 4, 2) := by decide +kernel
theorem dX2_takeNumber_40 : decode cX2_takeNumber 40 = .ok (.iload 4, 2) := by decide +kernel
theorem dX2_takeNumber_42 : decode cX2_takeNumber 42 = .ok (.iload_n 1, 1) := by decide +kernel
theorem dX2_takeNumber_43 : decode cX2_takeNumber 43 = .ok (.iload_n 2, 1) := by decide +kernel
theorem dX2_takeNumber_44 : decode cX2_takeNumber 44 = .ok (.invokestatic 98, 3) := by decide +kernel
theorem dX2_takeNumber_47 : decode cX2_takeNumber 47 = .ok (.ifCond .ne 9, 3) := by decide +kernel
theorem dX2_takeNumber_50 : decode cX2_takeNumber 50 = .ok (.iload 4, 2) := by decide +kernel
theorem dX2_takeNumber_52 : decode cX2_takeNumber 52 = .ok (.iload_n 3, 1) := by decide +kernel
theorem dX2_takeNumber_53 : decode cX2_takeNumber 53 = .ok (.if_icmp .ne 5, 3) := by decide +kernel
theorem dX2_takeNumber_56 : decode cX2_takeNumber 56 = .ok (.iconst (-1), 1) := by decide +kernel
theorem dX2_takeNumber_57 : decode cX2_takeNumber 57 = .ok (.ireturn, 1) := by decide +kernel
theorem dX2_takeNumber_58 : decode cX2_takeNumber 58 = .ok (.aload_n 0, 1) := by decide +kernel
theorem dX2_takeNumber_59 : decode cX2_takeNumber 59 = .ok (.invokevirtual 26, 3) := by decide +kernel
theorem dX2_takeNumber_62 : decode cX2_takeNumber 62 = .ok (.iload 4, 2) := by decide +kernel
theorem dX2_takeNumber_64 : decode cX2_takeNumber 64 = .ok (.ireturn, 1) := by decide +kernel
set_option maxRecDepth 20000 in
theorem ggX2_nextToken_X2_kindAt : GoodIn wsX2_nextToken wsX2_kindAt := goodIn_r _ [11, 3, 4, 5, 12, 13, 14, 15, 16, 17, 18, 19] (by decide +kernel) (by decide +kernel)
set_option maxRecDepth 20000 in
theorem gX2_nextToken_X2_kindAt : GoodIn wsX2_nextToken (wsV RX2 105 RX2 yX2_kindAt wsX2_kindAt) := goodIn_app (goodIn_of _ (by decide +kernel)) ggX2_nextToken_X2_kindAt
theorem dX2_nextToken_0 : decode cX2_nextToken 0 = .ok (.aload_n 0, 1) := by decide +kernel
theorem dX2_nextToken_1 : decode cX2_nextToken 1 = .ok (.aload_n 0, 1) := by decide +kernel
theorem dX2_nextToken_2 : decode cX2_nextToken 2 = .ok (.getfield 23, 3) := by decide +kernel
theorem dX2_nextToken_5 : decode cX2_nextToken 5 = .ok (.putfield 33, 3) := by decide +kernel
theorem dX2_nextToken_8 : decode cX2_nextToken 8 = .ok (.aload_n 0, 1) := by decide +kernel
theorem dX2_nextToken_9 : decode cX2_nextToken 9 = .ok (.getfield 33, 3) := by decide +kernel
theorem dX2_nextToken_12 : decode cX2_nextToken 12 = .ok (.aload_n 0, 1) := by decide +kernel
theorem dX2_nextToken_13 : decode cX2_nextToken 13 = .ok (.getfield 15, 3) := by decide +kernel
theorem dX2_nextToken_16 : decode cX2_nextToken 16 = .ok (.getfield 102, 3) := by decide +kernel
theorem dX2_nextToken_19 : decode cX2_nextToken 19 = .ok (.if_icmp .ge 33, 3) := by decide +kernel
theorem dX2_nextToken_22 : decode cX2_nextToken 22 = .ok (.aload_n 0, 1) := by decide +kernel
theorem dX2_nextToken_23 : decode cX2_nextToken 23 = .ok (.getfield 15, 3) := by decide +kernel
theorem dX2_nextToken_26 : decode cX2_nextToken 26 = .ok (.getfield 89, 3) := by decide +kernel
theorem dX2_nextToken_29 : decode cX2_nextToken 29 = .ok (.aload_n 0, 1) := by decide +kernel
theorem dX2_nextToken_30 : decode cX2_nextToken 30 = .ok (.getfield 33, 3) := by decide +kernel
theorem dX2_nextToken_33 : decode cX2_nextToken 33 = .ok (.iaload, 1) := by decide +kernel
theorem dX2_nextToken_34 : decode cX2_nextToken 34 = .ok (.bipush 32, 2) := by decide +kernel
theorem dX2_nextToken_36 : decode cX2_nextToken 36 = .ok (.if_icmp .ne 16, 3) := by decide +kernel
theorem dX2_nextToken_39 : decode cX2_nextToken 39 = .ok (.aload_n 0, 1) := by decide +kernel
theorem dX2_nextToken_40 : decode cX2_nextToken 40 = .ok (.dup, 1) := by decide +kernel
theorem dX2_nextToken_41 : decode cX2_nextToken 41 = .ok (.getfield 33, 3) := by decide +kernel
theorem dX2_nextToken_44 : decode cX2_nextToken 44 = .ok (.iconst 1, 1) := by decide +kernel
theorem dX2_nextToken_45 : decode cX2_nextToken 45 = .ok (.iadd, 1) := by decide +kernel
theorem dX2_nextToken_46 : decode cX2_nextToken 46 = .ok (.putfield 33, 3) := by decide +kernel
theorem dX2_nextToken_49 : decode cX2_nextToken 49 = .ok (.goto (-41), 3) := by decide +kernel
theorem dX2_nextToken_52 : decode cX2_nextToken 52 = .ok (.aload_n 0, 1) := by decide +kernel
theorem dX2_nextToken_53 : decode cX2_nextToken 53 = .ok (.aload_n 0, 1) := by decide +kernel
theorem dX2_nextToken_54 : decode cX2_nextToken 54 = .ok (.aload_n 0, 1) := by decide +kernel
theorem dX2_nextToken_55 : decode cX2_nextToken 55 = .ok (.getfield 33, 3) := by decide +kernel
theorem dX2_nextToken_58 : decode cX2_nextToken 58 = .ok (.invokevirtual 105, 3) := by decide +kernel
theorem dX2_nextToken_61 : decode cX2_nextToken 61 = .ok (.putfield 40, 3) := by decide +kernel
theorem dX2_nextToken_64 : decode cX2_nextToken 64 = .ok (.aload_n 0, 1) := by decide +kernel
theorem dX2_nextToken_65 : decode cX2_nextToken 65 = .ok (.aload_n 0, 1) := by decide +kernel
theorem dX2_nextToken_66 : decode cX2_nextToken 66 = .ok (.getfield 40, 3) := by decide +kernel
theorem dX2_nextToken_69 : decode cX2_nextToken 69 = .ok (.ifCond .ne 10, 3) := by decide +kernel
theorem dX2_nextToken_72 : decode cX2_nextToken 72 = .ok (.aload_n 0, 1) := by decide +kernel
theorem dX2_nextToken_73 : decode cX2_nextToken 73 = .ok (.getfield 33, 3) := by decide +kernel
theorem dX2_nextToken_76 : decode cX2_nextToken 76 = .ok (.goto 9, 3) := by decide +kernel
theorem dX2_nextToken_79 : decode cX2_nextToken 79 = .ok (.aload_n 0, 1) := by decide +kernel
theorem dX2_nextToken_80 : decode cX2_nextToken 80 = .ok (.getfield 33, 3) := by decide +kernel
theorem dX2_nextToken_83 : decode cX2_nextToken 83 = .ok (.iconst 1, 1) := by decide +kernel
theorem dX2_nextToken_84 : decode cX2_nextToken 84 = .ok (.iadd, 1) := by decide +kernel
theorem dX2_nextToken_85 : decode cX2_nextToken 85 = .ok (.putfield 23, 3) := by decide +kernel
theorem dX2_nextToken_88 : decode cX2_nextToken 88 = .ok (.aload_n 0, 1) := by decide +kernel
theorem dX2_nextToken_89 : decode cX2_nextToken 89 = .ok (.getfield 40, 3) := by decide +kernel
theorem dX2_nextToken_92 : decode cX2_nextToken 92 = .ok (.iconst 1, 1) := by decide +kernel
theorem dX2_nextToken_93 : decode cX2_nextToken 93 = .ok (.if_icmp .eq 11, 3) := by decide +kernel
theorem dX2_nextToken_96 : decode cX2_nextToken 96 = .ok (.aload_n 0, 1) := by decide +kernel
theorem dX2_nextToken_97 : decode cX2_nextToken 97 = .ok (.getfield 40, 3) := by decide +kernel
theorem dX2_nextToken_100 : decode cX2_nextToken 100 = .ok (.iconst 2, 1) := by decide +kernel
theorem dX2_nextToken_101 : decode cX2_nextToken 101 = .ok (.if_icmp .ne 45, 3) := by decide +kernel
theorem dX2_nextToken_104 : decode cX2_nextToken 104 = .ok (.aload_n 0, 1) := by decide +kernel
theorem dX2_nextToken_105 : decode cX2_nextToken 105 = .ok (.getfield 23, 3) := by decide +kernel
theorem dX2_nextToken_108 : decode cX2_nextToken 108 = .ok (.aload_n 0, 1) := by decide +kernel
theorem dX2_nextToken_109 : decode cX2_nextToken 109 = .ok (.getfield 15, 3) := by decide +kernel
theorem dX2_nextToken_112 : decode cX2_nextToken 112 = .ok (.getfield 102, 3) := by decide +kernel
theorem dX2_nextToken_115 : decode cX2_nextToken 115 = .ok (.if_icmp .ge 31, 3) := by decide +kernel
theorem dX2_nextToken_118 : decode cX2_nextToken 118 = .ok (.aload_n 0, 1) := by decide +kernel
theorem dX2_nextToken_119 : decode cX2_nextToken 119 = .ok (.aload_n 0, 1) := by decide +kernel
theorem dX2_nextToken_120 : decode cX2_nextToken 120 = .ok (.getfield 23, 3) := by decide +kernel
theorem dX2_nextToken_123 : decode cX2_nextToken 123 = .ok (.invokevirtual 105, 3) := by decide +kernel
theorem dX2_nextToken_126 : decode cX2_nextToken 126 = .ok (.aload_n 0, 1) := by decide +kernel
theorem dX2_nextToken_127 : decode cX2_nextToken 127 = .ok (.getfield 40, 3) := by decide +kernel
theorem dX2_nextToken_130 : decode cX2_nextToken 130 = .ok (.if_icmp .ne 16, 3) := by decide +kernel
theorem dX2_nextToken_133 : decode cX2_nextToken 133 = .ok (.aload_n 0, 1) := by decide +kernel
theorem dX2_nextToken_134 : decode cX2_nextToken 134 = .ok (.dup, 1) := by decide +kernel
theorem dX2_nextToken_135 : decode cX2_nextToken 135 = .ok (.getfield 23, 3) := by decide +kernel
theorem dX2_nextToken_138 : decode cX2_nextToken 138 = .ok (.iconst 1, 1) := by decide +kernel
theorem dX2_nextToken_139 : decode cX2_nextToken 139 = .ok (.iadd, 1) := by decide +kernel
theorem dX2_nextToken_140 : decode cX2_nextToken 140 = .ok (.putfield 23, 3) := by decide +kernel
theorem dX2_nextToken_143 : decode cX2_nextToken 143 = .ok (.goto (-39), 3) := by decide +kernel
theorem dX2_nextToken_146 : decode cX2_nextToken 146 = .ok (.return_, 1) := by decide +kernel
theorem dX2_kindAt_0 : decode cX2_kindAt 0 = .ok (.iload_n 1, 1) := by decide +kernel
theorem dX2_kindAt_1 : decode cX2_kindAt 1 = .ok (.aload_n 0, 1) := by decide +kernel
theorem dX2_kindAt_2 : decode cX2_kindAt 2 = .ok (.getfield 15, 3) := by decide +kernel
theorem dX2_kindAt_5 : decode cX2_kindAt 5 = .ok (.getfield 102, 3) := by decide +kernel
theorem dX2_kindAt_8 : decode cX2_kindAt 8 = .ok (.if_icmp .lt 5, 3) := by decide +kernel
theorem dX2_kindAt_11 : decode cX2_kindAt 11 = .ok (.iconst 0, 1) := by decide +kernel
theorem dX2_kindAt_12 : decode cX2_kindAt 12 = .ok (.ireturn, 1) := by decide +kernel
theorem dX2_kindAt_13 : decode cX2_kindAt 13 = .ok (.aload_n 0, 1) := by decide +kernel
theorem dX2_kindAt_14 : decode cX2_kindAt 14 = .ok (.getfield 15, 3) := by decide +kernel
theorem dX2_kindAt_17 : decode cX2_kindAt 17 = .ok (.getfield 89, 3) := by decide +kernel
theorem dX2_kindAt_20 : decode cX2_kindAt 20 = .ok (.iload_n 1, 1) := by decide +kernel
theorem dX2_kindAt_21 : decode cX2_kindAt 21 = .ok (.iaload, 1) := by decide +kernel
theorem dX2_kindAt_22 : decode cX2_kindAt 22 = .ok (.istore_n 2, 1) := by decide +kernel
theorem dX2_kindAt_23 : decode cX2_kindAt 23 = .ok (.iload_n 2, 1) := by decide +kernel
theorem dX2_kindAt_24 : decode cX2_kindAt 24 = .ok (.bipush 97, 2) := by decide +kernel
theorem dX2_kindAt_26 : decode cX2_kindAt 26 = .ok (.if_icmp .lt 11, 3) := by decide +kernel
theorem dX2_kindAt_29 : decode cX2_kindAt 29 = .ok (.iload_n 2, 1) := by decide +kernel
theorem dX2_kindAt_30 : decode cX2_kindAt 30 = .ok (.bipush 122, 2) := by decide +kernel
theorem dX2_kindAt_32 : decode cX2_kindAt 32 = .ok (.if_icmp .gt 5, 3) := by decide +kernel
theorem dX2_kindAt_35 : decode cX2_kindAt 35 = .ok (.iconst 1, 1) := by decide +kernel
theorem dX2_kindAt_36 : decode cX2_kindAt 36 = .ok (.ireturn, 1) := by decide +kernel
theorem dX2_kindAt_37 : decode cX2_kindAt 37 = .ok (.iload_n 2, 1) := by decide +kernel
theorem dX2_kindAt_38 : decode cX2_kindAt 38 = .ok (.bipush 48, 2) := by decide +kernel
theorem dX2_kindAt_40 : decode cX2_kindAt 40 = .ok (.if_icmp .lt 13, 3) := by decide +kernel
theorem dX2_kindAt_43 : decode cX2_kindAt 43 = .ok (.iload_n 2, 1) := by decide +kernel
theorem dX2_kindAt_44 : decode cX2_kindAt 44 = .ok (.bipush 57, 2) := by decide +kernel
theorem dX2_kindAt_46 : decode cX2_kindAt 46 = .ok (.if_icmp .gt 7, 3) := by decide +kernel
theorem dX2_kindAt_49 : decode cX2_kindAt 49 = .ok (.iconst 2, 1) := by decide +kernel
theorem dX2_kindAt_50 : decode cX2_kindAt 50 = .ok (.goto 4, 3) := by decide +kernel
theorem dX2_kindAt_53 : decode cX2_kindAt 53 = .ok (.iconst 3, 1) := by decide +kernel
theorem dX2_kindAt_54 : decode cX2_kindAt 54 = .ok (.ireturn, 1) := by decide +kernel
theorem dX3_init_0 : decode cX3_init 0 = .ok (.aload_n 0, 1) := by decide +kernel
theorem dX3_init_1 : decode cX3_init 1 = .ok (.invokespecial 3, 3) := by decide +kernel
theorem dX3_init_4 : decode cX3_init 4 = .ok (.aload_n 0, 1) := by decide +kernel
theorem dX3_init_5 : decode cX3_init 5 = .ok (.bipush 16, 2) := by decide +kernel
theorem dX3_init_7 : decode cX3_init 7 = .ok (.newarray .int, 2) := by decide +kernel
theorem dX3_init_9 : decode cX3_init 9 = .ok (.putfield 9, 3) := by decide +kernel
theorem dX3_init_12 : decode cX3_init 12 = .ok (.aload_n 0, 1) := by decide +kernel
theorem dX3_init_13 : decode cX3_init 13 = .ok (.bipush 16, 2) := by decide +kernel

theorem dX8_who_16 : decode cX8_who 16 = .ok (.invokevirtual 154, 3) := by decide +kernel
theorem dX8_who_19 : decode cX8_who 19 = .ok (.ireturn, 1) := by decide +kernel
theorem dX8_many_0 : decode cX8_many 0 = .ok (.iconst 0, 1) := by decide +kernel
theorem dX8_many_1 : decode cX8_many 1 = .ok (.istore_n 1, 1) := by decide +kernel
theorem dX8_many_2 : decode cX8_many 2 = .ok (.iconst 0, 1) := by decide +kernel
theorem dX8_many_3 : decode cX8_many 3 = .ok (.istore_n 2, 1) := by decide +kernel
theorem dX8_many_4 : decode cX8_many 4 = .ok (.iload_n 2, 1) := by decide +kernel
theorem dX8_many_5 : decode cX8_many 5 = .ok (.bipush 20, 2) := by decide +kernel
theorem dX8_many_7 : decode cX8_many 7 = .ok (.if_icmp .ge 17, 3) := by decide +kernel
theorem dX8_many_10 : decode cX8_many 10 = .ok (.iload_n 1, 1) := by decide +kernel
theorem dX8_many_11 : decode cX8_many 11 = .ok (.iload_n 0, 1) := by decide +kernel
theorem dX8_many_12 : decode cX8_many 12 = .ok (.iload_n 2, 1) := by decide +kernel
theorem dX8_many_13 : decode cX8_many 13 = .ok (.ishr, 1) := by decide +kernel
theorem dX8_many_14 : decode cX8_many 14 = .ok (.iconst 1, 1) := by decide +kernel
theorem dX8_many_15 : decode cX8_many 15 = .ok (.iand, 1) := by decide +kernel
theorem dX8_many_16 : decode cX8_many 16 = .ok (.iadd, 1) := by decide +kernel
theorem dX8_many_17 : decode cX8_many 17 = .ok (.istore_n 1, 1) := by decide +kernel
theorem dX8_many_18 : decode cX8_many 18 = .ok (.iinc 2 1, 3) := by decide +kernel
theorem dX8_many_21 : decode cX8_many 21 = .ok (.goto (-17), 3) := by decide +kernel
theorem dX8_many_24 : decode cX8_many 24 = .ok (.iload_n 1, 1) := by decide +kernel
theorem dX8_many_25 : decode cX8_many 25 = .ok (.ireturn, 1) := by decide +kernel
set_option maxRecDepth 20000 in
theorem ggX8_claimants_X8_reaches : GoodIn wsX8_claimants wsX8_reaches := goodIn_r _ [7, 2, 11, 12, 13, 14, 15, 16, 17, 18, 19, 20, 21, 22, 23, 24, 25, 26, 27, 28, 29, 30, 31, 32, 33, 34, 35, 36, 37] (by decide +kernel) (by decide +kernel)
set_option maxRecDepth 20000 in
theorem gX8_claimants_X8_reaches : GoodIn wsX8_claimants (wsV RX8 136 RX8 yX8_reaches wsX8_reaches) := goodIn_app (goodIn_of _ (by decide +kernel)) ggX8_claimants_X8_reaches
set_option maxRecDepth 20000 in
theorem ggX8_claimants_X8_many : GoodIn wsX8_claimants wsX8_many := goodIn_r _ [10] (by decide +kernel) (by decide +kernel)
set_option maxRecDepth 20000 in
theorem gX8_claimants_X8_many : GoodIn wsX8_claimants (va_wsS RX8 157 yX8_many wsX8_many) := goodIn_app (goodIn_of _ (by decide +kernel)) ggX8_claimants_X8_many
theorem dX8_claimants_0 : decode cX8_claimants 0 = .ok (.iconst 0, 1) := by decide +kernel
theorem dX8_claimants_1 : decode cX8_claimants 1 = .ok (.istore_n 2, 1) := by decide +kernel
theorem dX8_claimants_2 : decode cX8_claimants 2 = .ok (.iconst 0, 1) := by decide +kernel
theorem dX8_claimants_3 : decode cX8_claimants 3 = .ok (.istore_n 3, 1) := by decide +kernel
theorem dX8_claimants_4 : decode cX8_claimants 4 = .ok (.iload_n 3, 1) := by decide +kernel
theorem dX8_claimants_5 : decode cX8_claimants 5 = .ok (.aload_n 0, 1) := by decide +kernel
theorem dX8_claimants_6 : decode cX8_claimants 6 = .ok (.getfield 119, 3) := by decide +kernel
theorem dX8_claimants_9 : decode cX8_claimants 9 = .ok (.if_icmp .ge 51, 3) := by decide +kernel
theorem dX8_claimants_12 : decode cX8_claimants 12 = .ok (.iload_n 2, 1) := by decide +kernel
theorem dX8_claimants_13 : decode cX8_claimants 13 = .ok (.aload_n 0, 1) := by decide +kernel
theorem dX8_claimants_14 : decode cX8_claimants 14 = .ok (.getfield 13, 3) := by decide +kernel
theorem dX8_claimants_17 : decode cX8_claimants 17 = .ok (.bipush 7, 2) := by decide +kernel
theorem dX8_claimants_19 : decode cX8_claimants 19 = .ok (.iload_n 3, 1) := by decide +kernel
theorem dX8_claimants_20 : decode cX8_claimants 20 = .ok (.imul, 1) := by decide +kernel
theorem dX8_claimants_21 : decode cX8_claimants 21 = .ok (.iaload, 1) := by decide +kernel
theorem dX8_claimants_22 : decode cX8_claimants 22 = .ok (.iconst 2, 1) := by decide +kernel
theorem dX8_claimants_23 : decode cX8_claimants 23 = .ok (.if_icmp .ne 28, 3) := by decide +kernel
theorem dX8_claimants_26 : decode cX8_claimants 26 = .ok (.aload_n 0, 1) := by decide +kernel
theorem dX8_claimants_27 : decode cX8_claimants 27 = .ok (.iload_n 3, 1) := by decide +kernel
theorem dX8_claimants_28 : decode cX8_claimants 28 = .ok (.iload_n 1, 1) := by decide +kernel
theorem dX8_claimants_29 : decode cX8_claimants 29 = .ok (.invokevirtual 136, 3) := by decide +kernel
theorem dX8_claimants_32 : decode cX8_claimants 32 = .ok (.ifCond .eq 19, 3) := by decide +kernel
theorem dX8_claimants_35 : decode cX8_claimants 35 = .ok (.iconst 1, 1) := by decide +kernel
theorem dX8_claimants_36 : decode cX8_claimants 36 = .ok (.aload_n 0, 1) := by decide +kernel
theorem dX8_claimants_37 : decode cX8_claimants 37 = .ok (.getfield 13, 3) := by decide +kernel
theorem dX8_claimants_40 : decode cX8_claimants 40 = .ok (.bipush 7, 2) := by decide +kernel
theorem dX8_claimants_42 : decode cX8_claimants 42 = .ok (.iload_n 3, 1) := by decide +kernel
theorem dX8_claimants_43 : decode cX8_claimants 43 = .ok (.imul, 1) := by decide +kernel
theorem dX8_claimants_44 : decode cX8_claimants 44 = .ok (.iconst 1, 1) := by decide +kernel
theorem dX8_claimants_45 : decode cX8_claimants 45 = .ok (.iadd, 1) := by decide +kernel
theorem dX8_claimants_46 : decode cX8_claimants 46 = .ok (.iaload, 1) := by decide +kernel
theorem dX8_claimants_47 : decode cX8_claimants 47 = .ok (.ishl, 1) := by decide +kernel
theorem dX8_claimants_48 : decode cX8_claimants 48 = .ok (.goto 4, 3) := by decide +kernel
theorem dX8_claimants_51 : decode cX8_claimants 51 = .ok (.iconst 0, 1) := by decide +kernel
theorem dX8_claimants_52 : decode cX8_claimants 52 = .ok (.ior, 1) := by decide +kernel
theorem dX8_claimants_53 : decode cX8_claimants 53 = .ok (.istore_n 2, 1) := by decide +kernel
theorem dX8_claimants_54 : decode cX8_claimants 54 = .ok (.iinc 3 1, 3) := by decide +kernel
theorem dX8_claimants_57 : decode cX8_claimants 57 = .ok (.goto (-53), 3) := by decide +kernel
theorem dX8_claimants_60 : decode cX8_claimants 60 = .ok (.iload_n 2, 1) := by decide +kernel
theorem dX8_claimants_61 : decode cX8_claimants 61 = .ok (.invokestatic 157, 3) := by decide +kernel
theorem dX8_claimants_64 : decode cX8_claimants 64 = .ok (.ireturn, 1) := by decide +kernel
set_option maxRecDepth 20000 in
theorem ggX8_works_X8_in : GoodIn wsX8_works wsX8_in := goodIn_r _ [5] (by decide +kernel) (by decide +kernel)
set_option maxRecDepth 20000 in
theorem gX8_works_X8_in : GoodIn wsX8_works (va_wsS RX8 57 yX8_in wsX8_in) := goodIn_app (goodIn_of _ (by decide +kernel)) ggX8_works_X8_in
set_option maxRecDepth 20000 in
theorem ggX8_works_X8_allThere : GoodIn wsX8_works wsX8_allThere := goodIn_r _ [9, 10, 11, 12, 41, 42, 43, 44, 45, 46, 47, 48, 49, 50, 51, 52, 53, 54, 55, 56, 57, 58, 59, 60, 61, 62, 63, 64, 65, 66, 67] (by decide +kernel) (by decide +kernel)
set_option maxRecDepth 20000 in
theorem gX8_works_X8_allThere : GoodIn wsX8_works (wsV RX8 148 RX8 yX8_allThere wsX8_allThere) := goodIn_app (goodIn_of _ (by decide +kernel)) ggX8_works_X8_allThere
set_option maxRecDepth 20000 in
theorem ggX8_works_X8_whoMay : GoodIn wsX8_works wsX8_whoMay := goodIn_r _ [16, 17, 18, 19, 4, 20, 21, 22, 23, 24, 25, 11, 26, 27, 28, 29, 12, 10, 30, 31, 32, 33, 41, 42, 43, 44, 45, 46, 47, 48, 49, 50, 51, 52, 53, 54, 55, 56, 57, 58, 59, 60, 61, 62, 63, 64, 65, 66, 67] (by decide +kernel) (by decide +kernel)
set_option maxRecDepth 20000 in
theorem gX8_works_X8_whoMay : GoodIn wsX8_works (wsV RX8 154 RX8 yX8_whoMay wsX8_whoMay) := goodIn_app (goodIn_of _ (by decide +kernel)) ggX8_works_X8_whoMay
set_option maxRecDepth 20000 in
theorem ggX8_works_X8_many : GoodIn wsX8_works wsX8_many := goodIn_r _ [36] (by decide +kernel) (by decide +kernel)
set_option maxRecDepth 20000 in
theorem gX8_works_X8_many : GoodIn wsX8_works (va_wsS RX8 157 yX8_many wsX8_many) := goodIn_app (goodIn_of _ (by decide +kernel)) ggX8_works_X8_many
set_option maxRecDepth 20000 in
theorem ggX8_works_X8_claimants : GoodIn wsX8_works wsX8_claimants := goodIn_r _ [40, 11, 21, 30, 31, 32, 4, 33, 34, 35, 36, 41, 42, 43, 44, 45, 46, 47, 48, 49, 50, 51, 52, 53, 54, 55, 56, 57, 58, 59, 60, 61, 62, 63, 64, 65, 66, 67] (by decide +kernel) (by decide +kernel)
set_option maxRecDepth 20000 in
theorem gX8_works_X8_claimants : GoodIn wsX8_works (wsV RX8 162 RX8 yX8_claimants wsX8_claimants) := goodIn_app (goodIn_of _ (by decide +kernel)) ggX8_works_X8_claimants
theorem dX8_works_0 : decode cX8_works 0 = .ok (.iload_n 1, 1) := by decide +kernel
theorem dX8_works_1 : decode cX8_works 1 = .ok (.i2l, 1) := by decide +kernel
theorem dX8_works_2 : decode cX8_works 2 = .ok (.lconst 0, 1) := by decide +kernel
theorem dX8_works_3 : decode cX8_works 3 = .ok (.ldc2_w 160, 3) := by decide +kernel
theorem dX8_works_6 : decode cX8_works 6 = .ok (.invokestatic 57, 3) := by decide +kernel
theorem dX8_works_9 : decode cX8_works 9 = .ok (.ifCond .eq 8, 3) := by decide +kernel
theorem dX8_works_12 : decode cX8_works 12 = .ok (.iload_n 2, 1) := by decide +kernel
theorem dX8_works_13 : decode cX8_works 13 = .ok (.iconst (-1), 1) := by decide +kernel
theorem dX8_works_14 : decode cX8_works 14 = .ok (.if_icmp .ge 6, 3) := by decide +kernel
theorem dX8_works_17 : decode cX8_works 17 = .ok (.bipush (-3), 2) := by decide +kernel
theorem dX8_works_19 : decode cX8_works 19 = .ok (.ireturn, 1) := by decide +kernel
theorem dX8_works_20 : decode cX8_works 20 = .ok (.aload_n 0, 1) := by decide +kernel
theorem dX8_works_21 : decode cX8_works 21 = .ok (.invokevirtual 148, 3) := by decide +kernel
theorem dX8_works_24 : decode cX8_works 24 = .ok (.iconst 0, 1) := by decide +kernel
theorem dX8_works_25 : decode cX8_works 25 = .ok (.istore_n 3, 1) := by decide +kernel
theorem dX8_works_26 : decode cX8_works 26 = .ok (.iconst 0, 1) := by decide +kernel
theorem dX8_works_27 : decode cX8_works 27 = .ok (.istore 4, 2) := by decide +kernel
theorem dX8_works_29 : decode cX8_works 29 = .ok (.iload 4, 2) := by decide +kernel
theorem dX8_works_31 : decode cX8_works 31 = .ok (.sipush 240, 3) := by decide +kernel
theorem dX8_works_34 : decode cX8_works 34 = .ok (.if_icmp .ge 99, 3) := by decide +kernel
theorem dX8_works_37 : decode cX8_works 37 = .ok (.iload_n 1, 1) := by decide +kernel
theorem dX8_works_38 : decode cX8_works 38 = .ok (.ifCond .ne 20, 3) := by decide +kernel
theorem dX8_works_41 : decode cX8_works 41 = .ok (.aload_n 0, 1) := by decide +kernel
theorem dX8_works_42 : decode cX8_works 42 = .ok (.iload 4, 2) := by decide +kernel
theorem dX8_works_44 : decode cX8_works 44 = .ok (.invokevirtual 154, 3) := by decide +kernel
theorem dX8_works_47 : decode cX8_works 47 = .ok (.ifCond .ne 7, 3) := by decide +kernel
theorem dX8_works_50 : decode cX8_works 50 = .ok (.iconst 1, 1) := by decide +kernel
theorem dX8_works_51 : decode cX8_works 51 = .ok (.goto 48, 3) := by decide +kernel
theorem dX8_works_54 : decode cX8_works 54 = .ok (.iconst 0, 1) := by decide +kernel
theorem dX8_works_55 : decode cX8_works 55 = .ok (.goto 44, 3) := by decide +kernel
theorem dX8_works_58 : decode cX8_works 58 = .ok (.iload_n 1, 1) := by decide +kernel
theorem dX8_works_59 : decode cX8_works 59 = .ok (.iconst 1, 1) := by decide +kernel
theorem dX8_works_60 : decode cX8_works 60 = .ok (.if_icmp .ne 24, 3) := by decide +kernel
theorem dX8_works_63 : decode cX8_works 63 = .ok (.aload_n 0, 1) := by decide +kernel
theorem dX8_works_64 : decode cX8_works 64 = .ok (.iload 4, 2) := by decide +kernel
theorem dX8_works_66 : decode cX8_works 66 = .ok (.invokevirtual 154, 3) := by decide +kernel
theorem dX8_works_69 : decode cX8_works 69 = .ok (.invokestatic 157, 3) := by decide +kernel
theorem dX8_works_72 : decode cX8_works 72 = .ok (.iconst 1, 1) := by decide +kernel
theorem dX8_works_73 : decode cX8_works 73 = .ok (.if_icmp .le 7, 3) := by decide +kernel
theorem dX8_works_76 : decode cX8_works 76 = .ok (.iconst 1, 1) := by decide +kernel
theorem dX8_works_77 : decode cX8_works 77 = .ok (.goto 22, 3) := by decide +kernel
theorem dX8_works_80 : decode cX8_works 80 = .ok (.iconst 0, 1) := by decide +kernel
theorem dX8_works_81 : decode cX8_works 81 = .ok (.goto 18, 3) := by decide +kernel
theorem dX8_works_84 : decode cX8_works 84 = .ok (.aload_n 0, 1) := by decide +kernel
theorem dX8_works_85 : decode cX8_works 85 = .ok (.iload 4, 2) := by decide +kernel
theorem dX8_works_87 : decode cX8_works 87 = .ok (.invokevirtual 162, 3) := by decide +kernel
theorem dX8_works_90 : decode cX8_works 90 = .ok (.iconst 1, 1) := by decide +kernel
theorem dX8_works_91 : decode cX8_works 91 = .ok (.if_icmp .le 7, 3) := by decide +kernel
theorem dX8_works_94 : decode cX8_works 94 = .ok (.iconst 1, 1) := by decide +kernel
theorem dX8_works_95 : decode cX8_works 95 = .ok (.goto 4, 3) := by decide +kernel
theorem dX8_works_98 : decode cX8_works 98 = .ok (.iconst 0, 1) := by decide +kernel
theorem dX8_works_99 : decode cX8_works 99 = .ok (.istore 5, 2) := by decide +kernel
theorem dX8_works_101 : decode cX8_works 101 = .ok (.iload 5, 2) := by decide +kernel
theorem dX8_works_103 : decode cX8_works 103 = .ok (.ifCond .eq 11, 3) := by decide +kernel
theorem dX8_works_106 : decode cX8_works 106 = .ok (.iload_n 3, 1) := by decide +kernel
theorem dX8_works_107 : decode cX8_works 107 = .ok (.iload_n 2, 1) := by decide +kernel
theorem dX8_works_108 : decode cX8_works 108 = .ok (.if_icmp .ne 6, 3) := by decide +kernel
theorem dX8_works_111 : decode cX8_works 111 = .ok (.iload 4, 2) := by decide +kernel
theorem dX8_works_113 : decode cX8_works 113 = .ok (.ireturn, 1) := by decide +kernel
theorem dX8_works_114 : decode cX8_works 114 = .ok (.iload_n 3, 1) := by decide +kernel
theorem dX8_works_115 : decode cX8_works 115 = .ok (.iload 5, 2) := by decide +kernel
theorem dX8_works_117 : decode cX8_works 117 = .ok (.ifCond .eq 7, 3) := by decide +kernel
theorem dX8_works_120 : decode cX8_works 120 = .ok (.iconst 1, 1) := by decide +kernel
theorem dX8_works_121 : decode cX8_works 121 = .ok (.goto 4, 3) := by decide +kernel
theorem dX8_works_124 : decode cX8_works 124 = .ok (.iconst 0, 1) := by decide +kernel
theorem dX8_works_125 : decode cX8_works 125 = .ok (.iadd, 1) := by decide +kernel
theorem dX8_works_126 : decode cX8_works 126 = .ok (.istore_n 3, 1) := by decide +kernel
theorem dX8_works_127 : decode cX8_works 127 = .ok (.iinc 4 1, 3) := by decide +kernel
theorem dX8_works_130 : decode cX8_works 130 = .ok (.goto (-101), 3) := by decide +kernel
theorem dX8_works_133 : decode cX8_works 133 = .ok (.iload_n 2, 1) := by decide +kernel
theorem dX8_works_134 : decode cX8_works 134 = .ok (.iconst (-1), 1) := by decide +kernel
theorem dX8_works_135 : decode cX8_works 135 = .ok (.if_icmp .ne 7, 3) := by decide +kernel
theorem dX8_works_138 : decode cX8_works 138 = .ok (.iload_n 3, 1) := by decide +kernel
theorem dX8_works_139 : decode cX8_works 139 = .ok (.goto 4, 3) := by decide +kernel
theorem dX8_works_142 : decode cX8_works 142 = .ok (.iconst (-1), 1) := by decide +kernel
theorem dX8_works_143 : decode cX8_works 143 = .ok (.ireturn, 1) := by decide +kernel
set_option maxRecDepth 20000 in
theorem ggX8_step_X8_isThing : GoodIn wsX8_step wsX8_isThing := goodIn_r _ [7, 8, 9, 10, 6, 11] (by decide +kernel) (by decide +kernel)
set_option maxRecDepth 20000 in
theorem gX8_step_X8_isThing : GoodIn wsX8_step (va_wsS RX8 165 yX8_isThing wsX8_isThing) := goodIn_app (goodIn_of _ (by decide +kernel)) ggX8_step_X8_isThing
set_option maxRecDepth 20000 in
theorem ggX8_step_X8_isWork : GoodIn wsX8_step wsX8_isWork := goodIn_r _ [14, 15, 9, 10, 6, 11] (by decide +kernel) (by decide +kernel)
set_option maxRecDepth 20000 in
theorem gX8_step_X8_isWork : GoodIn wsX8_step (va_wsS RX8 145 yX8_isWork wsX8_isWork) := goodIn_app (goodIn_of _ (by decide +kernel)) ggX8_step_X8_isWork
theorem dX8_step_0 : decode cX8_step 0 = .ok (.iload_n 1, 1) := by decide +kernel
theorem dX8_step_1 : decode cX8_step 1 = .ok (.invokestatic 165, 3) := by decide +kernel
theorem dX8_step_4 : decode cX8_step 4 = .ok (.ifCond .eq 22, 3) := by decide +kernel
theorem dX8_step_7 : decode cX8_step 7 = .ok (.iload_n 2, 1) := by decide +kernel
theorem dX8_step_8 : decode cX8_step 8 = .ok (.invokestatic 145, 3) := by decide +kernel
theorem dX8_step_11 : decode cX8_step 11 = .ok (.ifCond .eq 15, 3) := by decide +kernel
theorem dX8_step_14 : decode cX8_step 14 = .ok (.iload_n 3, 1) := by decide +kernel
theorem dX8_step_15 : decode cX8_step 15 = .ok (.iconst (-1), 1) := by decide +kernel
theorem dX8_step_16 : decode cX8_step 16 = .ok (.if_icmp .eq 13, 3) := by decide +kernel
theorem dX8_step_19 : decode cX8_step 19 = .ok (.iload_n 3, 1) := by decide +kernel
theorem dX8_step_20 : decode cX8_step 20 = .ok (.invokestatic 145, 3) := by decide +kernel
theorem dX8_step_23 : decode cX8_step 23 = .ok (.ifCond .ne 6, 3) := by decide +kernel
theorem dX8_step_26 : decode cX8_step 26 = .ok (.bipush (-2), 2) := by decide +kernel
theorem dX8_step_28 : decode cX8_step 28 = .ok (.ireturn, 1) := by decide +kernel
theorem dX8_step_29 : decode cX8_step 29 = .ok (.aload_n 0, 1) := by decide +kernel
theorem dX8_step_30 : decode cX8_step 30 = .ok (.getfield 25, 3) := by decide +kernel
theorem dX8_step_33 : decode cX8_step 33 = .ok (.iload_n 1, 1) := by decide +kernel
theorem dX8_step_34 : decode cX8_step 34 = .ok (.iaload, 1) := by decide +kernel
theorem dX8_step_35 : decode cX8_step 35 = .ok (.bipush 8, 2) := by decide +kernel
theorem dX8_step_37 : decode cX8_step 37 = .ok (.if_icmp .ne 6, 3) := by decide +kernel
theorem dX8_step_40 : decode cX8_step 40 = .ok (.bipush (-5), 2) := by decide +kernel
theorem dX8_step_42 : decode cX8_step 42 = .ok (.ireturn, 1) := by decide +kernel
theorem dX8_step_43 : decode cX8_step 43 = .ok (.aload_n 0, 1) := by decide +kernel
theorem dX8_step_44 : decode cX8_step 44 = .ok (.getfield 19, 3) := by decide +kernel
theorem dX8_step_47 : decode cX8_step 47 = .ok (.bipush 8, 2) := by decide +kernel
theorem dX8_step_49 : decode cX8_step 49 = .ok (.iload_n 1, 1) := by decide +kernel
theorem dX8_step_50 : decode cX8_step 50 = .ok (.imul, 1) := by decide +kernel
theorem dX8_step_51 : decode cX8_step 51 = .ok (.aload_n 0, 1) := by decide +kernel
theorem dX8_step_52 : decode cX8_step 52 = .ok (.getfield 25, 3) := by decide +kernel
theorem dX8_step_55 : decode cX8_step 55 = .ok (.iload_n 1, 1) := by decide +kernel
theorem dX8_step_56 : decode cX8_step 56 = .ok (.iaload, 1) := by decide +kernel
theorem dX8_step_57 : decode cX8_step 57 = .ok (.iadd, 1) := by decide +kernel
theorem dX8_step_58 : decode cX8_step 58 = .ok (.iload_n 2, 1) := by decide +kernel
theorem dX8_step_59 : decode cX8_step 59 = .ok (.iastore, 1) := by decide +kernel
theorem dX8_step_60 : decode cX8_step 60 = .ok (.aload_n 0, 1) := by decide +kernel
theorem dX8_step_61 : decode cX8_step 61 = .ok (.getfield 22, 3) := by decide +kernel
theorem dX8_step_64 : decode cX8_step 64 = .ok (.bipush 8, 2) := by decide +kernel
theorem dX8_step_66 : decode cX8_step 66 = .ok (.iload_n 1, 1) := by decide +kernel
theorem dX8_step_67 : decode cX8_step 67 = .ok (.imul, 1) := by decide +kernel
theorem dX8_step_68 : decode cX8_step 68 = .ok (.aload_n 0, 1) := by decide +kernel
theorem dX8_step_69 : decode cX8_step 69 = .ok (.getfield 25, 3) := by decide +kernel
theorem dX8_step_72 : decode cX8_step 72 = .ok (.iload_n 1, 1) := by decide +kernel
theorem dX8_step_73 : decode cX8_step 73 = .ok (.iaload, 1) := by decide +kernel
theorem dX8_step_74 : decode cX8_step 74 = .ok (.iadd, 1) := by decide +kernel
theorem dX8_step_75 : decode cX8_step 75 = .ok (.iload_n 3, 1) := by decide +kernel
theorem dX8_step_76 : decode cX8_step 76 = .ok (.iastore, 1) := by decide +kernel
theorem dX8_step_77 : decode cX8_step 77 = .ok (.aload_n 0, 1) := by decide +kernel
theorem dX8_step_78 : decode cX8_step 78 = .ok (.getfield 25, 3) := by decide +kernel
theorem dX8_step_81 : decode cX8_step 81 = .ok (.iload_n 1, 1) := by decide +kernel
theorem dX8_step_82 : decode cX8_step 82 = .ok (.dup2, 1) := by decide +kernel
theorem dX8_step_83 : decode cX8_step 83 = .ok (.iaload, 1) := by decide +kernel
theorem dX8_step_84 : decode cX8_step 84 = .ok (.iconst 1, 1) := by decide +kernel
theorem dX8_step_85 : decode cX8_step 85 = .ok (.iadd, 1) := by decide +kernel
theorem dX8_step_86 : decode cX8_step 86 = .ok (.iastore, 1) := by decide +kernel
theorem dX8_step_87 : decode cX8_step 87 = .ok (.aload_n 0, 1) := by decide +kernel
theorem dX8_step_88 : decode cX8_step 88 = .ok (.getfield 25, 3) := by decide +kernel
theorem dX8_step_91 : decode cX8_step 91 = .ok (.iload_n 1, 1) := by decide +kernel
theorem dX8_step_92 : decode cX8_step 92 = .ok (.iaload, 1) := by decide +kernel
theorem dX8_step_93 : decode cX8_step 93 = .ok (.ireturn, 1) := by decide +kernel
set_option maxRecDepth 20000 in
theorem ggX8_clear_X8_isThing : GoodIn wsX8_clear wsX8_isThing := goodIn_r _ [5, 6, 7, 8, 4, 9] (by decide +kernel) (by decide +kernel)
set_option maxRecDepth 20000 in
theorem gX8_clear_X8_isThing : GoodIn wsX8_clear (va_wsS RX8 165 yX8_isThing wsX8_isThing) := goodIn_app (goodIn_of _ (by decide +kernel)) ggX8_clear_X8_isThing
theorem dX8_clear_0 : decode cX8_clear 0 = .ok (.iload_n 1, 1) := by decide +kernel
theorem dX8_clear_1 : decode cX8_clear 1 = .ok (.invokestatic 165, 3) := by decide +kernel
theorem dX8_clear_4 : decode cX8_clear 4 = .ok (.ifCond .ne 6, 3) := by decide +kernel
theorem dX8_clear_7 : decode cX8_clear 7 = .ok (.bipush (-2), 2) := by decide +kernel
theorem dX8_clear_9 : decode cX8_clear 9 = .ok (.ireturn, 1) := by decide +kernel
theorem dX8_clear_10 : decode cX8_clear 10 = .ok (.aload_n 0, 1) := by decide +kernel
theorem dX8_clear_11 : decode cX8_clear 11 = .ok (.getfield 25, 3) := by decide +kernel
theorem dX8_clear_14 : decode cX8_clear 14 = .ok (.iload_n 1, 1) := by decide +kernel
theorem dX8_clear_15 : decode cX8_clear 15 = .ok (.iaload, 1) := by decide +kernel
theorem dX8_clear_16 : decode cX8_clear 16 = .ok (.istore_n 2, 1) := by decide +kernel
theorem dX8_clear_17 : decode cX8_clear 17 = .ok (.aload_n 0, 1) := by decide +kernel
theorem dX8_clear_18 : decode cX8_clear 18 = .ok (.getfield 25, 3) := by decide +kernel
theorem dX8_clear_21 : decode cX8_clear 21 = .ok (.iload_n 1, 1) := by decide +kernel
theorem dX8_clear_22 : decode cX8_clear 22 = .ok (.iconst 0, 1) := by decide +kernel
theorem dX8_clear_23 : decode cX8_clear 23 = .ok (.iastore, 1) := by decide +kernel
theorem dX8_clear_24 : decode cX8_clear 24 = .ok (.iload_n 2, 1) := by decide +kernel
theorem dX8_clear_25 : decode cX8_clear 25 = .ok (.ireturn, 1) := by decide +kernel
set_option maxRecDepth 20000 in
theorem ggX8_price_X8_isGuild : GoodIn wsX8_price wsX8_isGuild := goodIn_r _ [7, 1, 8, 9, 6, 10] (by decide +kernel) (by decide +kernel)
set_option maxRecDepth 20000 in
theorem gX8_price_X8_isGuild : GoodIn wsX8_price (va_wsS RX8 142 yX8_isGuild wsX8_isGuild) := goodIn_app (goodIn_of _ (by decide +kernel)) ggX8_price_X8_isGuild
set_option maxRecDepth 20000 in
theorem ggX8_price_X8_in : GoodIn wsX8_price wsX8_in := goodIn_r _ [10] (by decide +kernel) (by decide +kernel)
set_option maxRecDepth 20000 in
theorem gX8_price_X8_in : GoodIn wsX8_price (va_wsS RX8 57 yX8_in wsX8_in) := goodIn_app (goodIn_of _ (by decide +kernel)) ggX8_price_X8_in
theorem dX8_price_0 : decode cX8_price 0 = .ok (.iload_n 1, 1) := by decide +kernel
theorem dX8_price_1 : decode cX8_price 1 = .ok (.invokestatic 142, 3) := by decide +kernel
theorem dX8_price_4 : decode cX8_price 4 = .ok (.ifCond .ne 6, 3) := by decide +kernel
theorem dX8_price_7 : decode cX8_price 7 = .ok (.bipush (-2), 2) := by decide +kernel
theorem dX8_price_9 : decode cX8_price 9 = .ok (.ireturn, 1) := by decide +kernel
theorem dX8_price_10 : decode cX8_price 10 = .ok (.iload_n 2, 1) := by decide +kernel
theorem dX8_price_11 : decode cX8_price 11 = .ok (.i2l, 1) := by decide +kernel
theorem dX8_price_12 : decode cX8_price 12 = .ok (.lconst 0, 1) := by decide +kernel
theorem dX8_price_13 : decode cX8_price 13 = .ok (.ldc2_w 55, 3) := by decide +kernel
theorem dX8_price_16 : decode cX8_price 16 = .ok (.invokestatic 57, 3) := by decide +kernel
theorem dX8_price_19 : decode cX8_price 19 = .ok (.ifCond .eq 15, 3) := by decide +kernel
theorem dX8_price_22 : decode cX8_price 22 = .ok (.iload_n 3, 1) := by decide +kernel
theorem dX8_price_23 : decode cX8_price 23 = .ok (.i2l, 1) := by decide +kernel
theorem dX8_price_24 : decode cX8_price 24 = .ok (.lconst 0, 1) := by decide +kernel
theorem dX8_price_25 : decode cX8_price 25 = .ok (.ldc2_w 168, 3) := by decide +kernel
theorem dX8_price_28 : decode cX8_price 28 = .ok (.invokestatic 57, 3) := by decide +kernel
theorem dX8_price_31 : decode cX8_price 31 = .ok (.ifCond .ne 6, 3) := by decide +kernel
theorem dX8_price_34 : decode cX8_price 34 = .ok (.bipush (-3), 2) := by decide +kernel
theorem dX8_price_36 : decode cX8_price 36 = .ok (.ireturn, 1) := by decide +kernel
theorem dX8_price_37 : decode cX8_price 37 = .ok (.aload_n 0, 1) := by decide +kernel
theorem dX8_price_38 : decode cX8_price 38 = .ok (.getfield 28, 3) := by decide +kernel
theorem dX8_price_41 : decode cX8_price 41 = .ok (.bipush 6, 2) := by decide +kernel
theorem dX8_price_43 : decode cX8_price 43 = .ok (.iload_n 1, 1) := by decide +kernel
theorem dX8_price_44 : decode cX8_price 44 = .ok (.imul, 1) := by decide +kernel
theorem dX8_price_45 : decode cX8_price 45 = .ok (.iload_n 2, 1) := by decide +kernel
theorem dX8_price_46 : decode cX8_price 46 = .ok (.iadd, 1) := by decide +kernel
theorem dX8_price_47 : decode cX8_price 47 = .ok (.iaload, 1) := by decide +kernel
theorem dX8_price_48 : decode cX8_price 48 = .ok (.istore 4, 2) := by decide +kernel
theorem dX8_price_50 : decode cX8_price 50 = .ok (.aload_n 0, 1) := by decide +kernel
theorem dX8_price_51 : decode cX8_price 51 = .ok (.getfield 28, 3) := by decide +kernel
theorem dX8_price_54 : decode cX8_price 54 = .ok (.bipush 6, 2) := by decide +kernel
theorem dX8_price_56 : decode cX8_price 56 = .ok (.iload_n 1, 1) := by decide +kernel
theorem dX8_price_57 : decode cX8_price 57 = .ok (.imul, 1) := by decide +kernel
theorem dX8_price_58 : decode cX8_price 58 = .ok (.iload_n 2, 1) := by decide +kernel
theorem dX8_price_59 : decode cX8_price 59 = .ok (.iadd, 1) := by decide +kernel
theorem dX8_price_60 : decode cX8_price 60 = .ok (.iload_n 3, 1) := by decide +kernel
theorem dX8_price_61 : decode cX8_price 61 = .ok (.iastore, 1) := by decide +kernel
theorem dX8_price_62 : decode cX8_price 62 = .ok (.iload 4, 2) := by decide +kernel
theorem dX8_price_64 : decode cX8_price 64 = .ok (.ireturn, 1) := by decide +kernel
set_option maxRecDepth 20000 in
theorem ggX8_days_X8_isGuild : GoodIn wsX8_days wsX8_isGuild := goodIn_r _ [6, 7, 8, 9, 5, 10] (by decide +kernel) (by decide +kernel)
set_option maxRecDepth 20000 in
theorem gX8_days_X8_isGuild : GoodIn wsX8_days (va_wsS RX8 142 yX8_isGuild wsX8_isGuild) := goodIn_app (goodIn_of _ (by decide +kernel)) ggX8_days_X8_isGuild
set_option maxRecDepth 20000 in
theorem ggX8_days_X8_in : GoodIn wsX8_days wsX8_in := goodIn_r _ [10] (by decide +kernel) (by decide +kernel)
set_option maxRecDepth 20000 in
theorem gX8_days_X8_in : GoodIn wsX8_days (va_wsS RX8 57 yX8_in wsX8_in) := goodIn_app (goodIn_of _ (by decide +kernel)) ggX8_days_X8_in
theorem dX8_days_0 : decode cX8_days 0 = .ok (.iload_n 1, 1) := by decide +kernel
theorem dX8_days_1 : decode cX8_days 1 = .ok (.invokestatic 142, 3) := by decide +kernel
theorem dX8_days_4 : decode cX8_days 4 = .ok (.ifCond .ne 6, 3) := by decide +kernel
theorem dX8_days_7 : decode cX8_days 7 = .ok (.bipush (-2), 2) := by decide +kernel
theorem dX8_days_9 : decode cX8_days 9 = .ok (.ireturn, 1) := by decide +kernel
theorem dX8_days_10 : decode cX8_days 10 = .ok (.iload_n 2, 1) := by decide +kernel
theorem dX8_days_11 : decode cX8_days 11 = .ok (.i2l, 1) := by decide +kernel
theorem dX8_days_12 : decode cX8_days 12 = .ok (.lconst 1, 1) := by decide +kernel
theorem dX8_days_13 : decode cX8_days 13 = .ok (.ldc2_w 170, 3) := by decide +kernel
theorem dX8_days_16 : decode cX8_days 16 = .ok (.invokestatic 57, 3) := by decide +kernel
theorem dX8_days_19 : decode cX8_days 19 = .ok (.ifCond .ne 6, 3) := by decide +kernel
theorem dX8_days_22 : decode cX8_days 22 = .ok (.bipush (-3), 2) := by decide +kernel
theorem dX8_days_24 : decode cX8_days 24 = .ok (.ireturn, 1) := by decide +kernel
theorem dX8_days_25 : decode cX8_days 25 = .ok (.aload_n 0, 1) := by decide +kernel
theorem dX8_days_26 : decode cX8_days 26 = .ok (.getfield 31, 3) := by decide +kernel
theorem dX8_days_29 : decode cX8_days 29 = .ok (.iload_n 1, 1) := by decide +kernel
theorem dX8_days_30 : decode cX8_days 30 = .ok (.iaload, 1) := by decide +kernel
theorem dX8_days_31 : decode cX8_days 31 = .ok (.istore_n 3, 1) := by decide +kernel
theorem dX8_days_32 : decode cX8_days 32 = .ok (.aload_n 0, 1) := by decide +kernel
theorem dX8_days_33 : decode cX8_days 33 = .ok (.getfield 31, 3) := by decide +kernel
theorem dX8_days_36 : decode cX8_days 36 = .ok (.iload_n 1, 1) := by decide +kernel
theorem dX8_days_37 : decode cX8_days 37 = .ok (.iload_n 2, 1) := by decide +kernel
theorem dX8_days_38 : decode cX8_days 38 = .ok (.iastore, 1) := by decide +kernel
theorem dX8_days_39 : decode cX8_days 39 = .ok (.iload_n 3, 1) := by decide +kernel
theorem dX8_days_40 : decode cX8_days 40 = .ok (.ireturn, 1) := by decide +kernel
set_option maxRecDepth 20000 in
theorem ggX8_carry_X8_in : GoodIn wsX8_carry wsX8_in := goodIn_r _ [6] (by decide +kernel) (by decide +kernel)
set_option maxRecDepth 20000 in
theorem gX8_carry_X8_in : GoodIn wsX8_carry (va_wsS RX8 57 yX8_in wsX8_in) := goodIn_app (goodIn_of _ (by decide +kernel)) ggX8_carry_X8_in
theorem dX8_carry_0 : decode cX8_carry 0 = .ok (.iload_n 1, 1) := by decide +kernel
theorem dX8_carry_1 : decode cX8_carry 1 = .ok (.i2l, 1) := by decide +kernel
theorem dX8_carry_2 : decode cX8_carry 2 = .ok (.lconst 0, 1) := by decide +kernel
theorem dX8_carry_3 : decode cX8_carry 3 = .ok (.ldc2_w 168, 3) := by decide +kernel
theorem dX8_carry_6 : decode cX8_carry 6 = .ok (.invokestatic 57, 3) := by decide +kernel
theorem dX8_carry_9 : decode cX8_carry 9 = .ok (.ifCond .ne 6, 3) := by decide +kernel
theorem dX8_carry_12 : decode cX8_carry 12 = .ok (.bipush (-3), 2) := by decide +kernel
theorem dX8_carry_14 : decode cX8_carry 14 = .ok (.ireturn, 1) := by decide +kernel
theorem dX8_carry_15 : decode cX8_carry 15 = .ok (.aload_n 0, 1) := by decide +kernel
theorem dX8_carry_16 : decode cX8_carry 16 = .ok (.getfield 172, 3) := by decide +kernel
theorem dX8_carry_19 : decode cX8_carry 19 = .ok (.istore_n 2, 1) := by decide +kernel
theorem dX8_carry_20 : decode cX8_carry 20 = .ok (.aload_n 0, 1) := by decide +kernel
theorem dX8_carry_21 : decode cX8_carry 21 = .ok (.iload_n 1, 1) := by decide +kernel
theorem dX8_carry_22 : decode cX8_carry 22 = .ok (.putfield 172, 3) := by decide +kernel
theorem dX8_carry_25 : decode cX8_carry 25 = .ok (.iload_n 2, 1) := by decide +kernel
theorem dX8_carry_26 : decode cX8_carry 26 = .ok (.ireturn, 1) := by decide +kernel
theorem dX8_layWorks_0 : decode cX8_layWorks 0 = .ok (.aload_n 0, 1) := by decide +kernel
theorem dX8_layWorks_1 : decode cX8_layWorks 1 = .ok (.aload_n 0, 1) := by decide +kernel
theorem dX8_layWorks_2 : decode cX8_layWorks 2 = .ok (.getfield 25, 3) := by decide +kernel
theorem dX8_layWorks_5 : decode cX8_layWorks 5 = .ok (.iload_n 1, 1) := by decide +kernel
theorem dX8_layWorks_6 : decode cX8_layWorks 6 = .ok (.iaload, 1) := by decide +kernel
theorem dX8_layWorks_7 : decode cX8_layWorks 7 = .ok (.putfield 175, 3) := by decide +kernel
theorem dX8_layWorks_10 : decode cX8_layWorks 10 = .ok (.iconst 0, 1) := by decide +kernel
theorem dX8_layWorks_11 : decode cX8_layWorks 11 = .ok (.istore_n 2, 1) := by decide +kernel
theorem dX8_layWorks_12 : decode cX8_layWorks 12 = .ok (.iload_n 2, 1) := by decide +kernel
theorem dX8_layWorks_13 : decode cX8_layWorks 13 = .ok (.aload_n 0, 1) := by decide +kernel
theorem dX8_layWorks_14 : decode cX8_layWorks 14 = .ok (.getfield 175, 3) := by decide +kernel
theorem dX8_layWorks_17 : decode cX8_layWorks 17 = .ok (.if_icmp .ge 49, 3) := by decide +kernel
theorem dX8_layWorks_20 : decode cX8_layWorks 20 = .ok (.aload_n 0, 1) := by decide +kernel
theorem dX8_layWorks_21 : decode cX8_layWorks 21 = .ok (.getfield 46, 3) := by decide +kernel
theorem dX8_layWorks_24 : decode cX8_layWorks 24 = .ok (.iconst 2, 1) := by decide +kernel
theorem dX8_layWorks_25 : decode cX8_layWorks 25 = .ok (.iload_n 2, 1) := by decide +kernel
theorem dX8_layWorks_26 : decode cX8_layWorks 26 = .ok (.imul, 1) := by decide +kernel
theorem dX8_layWorks_27 : decode cX8_layWorks 27 = .ok (.aload_n 0, 1) := by decide +kernel
theorem dX8_layWorks_28 : decode cX8_layWorks 28 = .ok (.getfield 19, 3) := by decide +kernel
theorem dX8_layWorks_31 : decode cX8_layWorks 31 = .ok (.bipush 8, 2) := by decide +kernel
theorem dX8_layWorks_33 : decode cX8_layWorks 33 = .ok (.iload_n 1, 1) := by decide +kernel
theorem dX8_layWorks_34 : decode cX8_layWorks 34 = .ok (.imul, 1) := by decide +kernel
theorem dX8_layWorks_35 : decode cX8_layWorks 35 = .ok (.iload_n 2, 1) := by decide +kernel
theorem dX8_layWorks_36 : decode cX8_layWorks 36 = .ok (.iadd, 1) := by decide +kernel
theorem dX8_layWorks_37 : decode cX8_layWorks 37 = .ok (.iaload, 1) := by decide +kernel
theorem dX8_layWorks_38 : decode cX8_layWorks 38 = .ok (.iastore, 1) := by decide +kernel
theorem dX8_layWorks_39 : decode cX8_layWorks 39 = .ok (.aload_n 0, 1) := by decide +kernel
theorem dX8_layWorks_40 : decode cX8_layWorks 40 = .ok (.getfield 46, 3) := by decide +kernel
theorem dX8_layWorks_43 : decode cX8_layWorks 43 = .ok (.iconst 2, 1) := by decide +kernel
theorem dX8_layWorks_44 : decode cX8_layWorks 44 = .ok (.iload_n 2, 1) := by decide +kernel
theorem dX8_layWorks_45 : decode cX8_layWorks 45 = .ok (.imul, 1) := by decide +kernel
theorem dX8_layWorks_46 : decode cX8_layWorks 46 = .ok (.iconst 1, 1) := by decide +kernel
theorem dX8_layWorks_47 : decode cX8_layWorks 47 = .ok (.iadd, 1) := by decide +kernel
theorem dX8_layWorks_48 : decode cX8_layWorks 48 = .ok (.aload_n 0, 1) := by decide +kernel
theorem dX8_layWorks_49 : decode cX8_layWorks 49 = .ok (.getfield 22, 3) := by decide +kernel
theorem dX8_layWorks_52 : decode cX8_layWorks 52 = .ok (.bipush 8, 2) := by decide +kernel
theorem dX8_layWorks_54 : decode cX8_layWorks 54 = .ok (.iload_n 1, 1) := by decide +kernel
theorem dX8_layWorks_55 : decode cX8_layWorks 55 = .ok (.imul, 1) := by decide +kernel
theorem dX8_layWorks_56 : decode cX8_layWorks 56 = .ok (.iload_n 2, 1) := by decide +kernel
theorem dX8_layWorks_57 : decode cX8_layWorks 57 = .ok (.iadd, 1) := by decide +kernel
theorem dX8_layWorks_58 : decode cX8_layWorks 58 = .ok (.iaload, 1) := by decide +kernel
theorem dX8_layWorks_59 : decode cX8_layWorks 59 = .ok (.iastore, 1) := by decide +kernel
theorem dX8_layWorks_60 : decode cX8_layWorks 60 = .ok (.iinc 2 1, 3) := by decide +kernel
theorem dX8_layWorks_63 : decode cX8_layWorks 63 = .ok (.goto (-51), 3) := by decide +kernel
theorem dX8_layWorks_66 : decode cX8_layWorks 66 = .ok (.return_, 1) := by decide +kernel
set_option maxRecDepth 20000 in
theorem ggX8_layCodes_X8_code : GoodIn wsX8_layCodes wsX8_code := goodIn_r _ [8, 9, 10, 11, 12, 7, 13, 14, 15, 16, 17, 18, 19, 20, 21, 22, 23, 24, 25, 26, 27, 28, 29, 30, 31, 32, 33, 34, 35, 36, 37, 38, 39, 40, 41, 42, 43, 44, 45, 46, 47, 48, 49, 50, 51] (by decide +kernel) (by decide +kernel)
set_option maxRecDepth 20000 in
theorem gX8_layCodes_X8_code : GoodIn wsX8_layCodes (wsV RX8 151 RX8 yX8_code wsX8_code) := goodIn_app (goodIn_of _ (by decide +kernel)) ggX8_layCodes_X8_code
theorem dX8_layCodes_0 : decode cX8_layCodes 0 = .ok (.iconst 0, 1) := by decide +kernel
theorem dX8_layCodes_1 : decode cX8_layCodes 1 = .ok (.istore_n 1, 1) := by decide +kernel
theorem dX8_layCodes_2 : decode cX8_layCodes 2 = .ok (.iload_n 1, 1) := by decide +kernel
theorem dX8_layCodes_3 : decode cX8_layCodes 3 = .ok (.bipush 12, 2) := by decide +kernel
theorem dX8_layCodes_5 : decode cX8_layCodes 5 = .ok (.aload_n 0, 1) := by decide +kernel
theorem dX8_layCodes_6 : decode cX8_layCodes 6 = .ok (.getfield 175, 3) := by decide +kernel
theorem dX8_layCodes_9 : decode cX8_layCodes 9 = .ok (.imul, 1) := by decide +kernel
theorem dX8_layCodes_10 : decode cX8_layCodes 10 = .ok (.if_icmp .ge 43, 3) := by decide +kernel
theorem dX8_layCodes_13 : decode cX8_layCodes 13 = .ok (.aload_n 0, 1) := by decide +kernel
theorem dX8_layCodes_14 : decode cX8_layCodes 14 = .ok (.getfield 46, 3) := by decide +kernel
theorem dX8_layCodes_17 : decode cX8_layCodes 17 = .ok (.iload_n 1, 1) := by decide +kernel
theorem dX8_layCodes_18 : decode cX8_layCodes 18 = .ok (.bipush 6, 2) := by decide +kernel
theorem dX8_layCodes_20 : decode cX8_layCodes 20 = .ok (.idiv, 1) := by decide +kernel
theorem dX8_layCodes_21 : decode cX8_layCodes 21 = .ok (.iaload, 1) := by decide +kernel
theorem dX8_layCodes_22 : decode cX8_layCodes 22 = .ok (.istore_n 2, 1) := by decide +kernel
theorem dX8_layCodes_23 : decode cX8_layCodes 23 = .ok (.aload_n 0, 1) := by decide +kernel
theorem dX8_layCodes_24 : decode cX8_layCodes 24 = .ok (.getfield 49, 3) := by decide +kernel
theorem dX8_layCodes_27 : decode cX8_layCodes 27 = .ok (.iload_n 1, 1) := by decide +kernel
theorem dX8_layCodes_28 : decode cX8_layCodes 28 = .ok (.iload_n 2, 1) := by decide +kernel
theorem dX8_layCodes_29 : decode cX8_layCodes 29 = .ok (.iconst (-1), 1) := by decide +kernel
theorem dX8_layCodes_30 : decode cX8_layCodes 30 = .ok (.if_icmp .ne 7, 3) := by decide +kernel
theorem dX8_layCodes_33 : decode cX8_layCodes 33 = .ok (.iconst 0, 1) := by decide +kernel
theorem dX8_layCodes_34 : decode cX8_layCodes 34 = .ok (.goto 12, 3) := by decide +kernel
theorem dX8_layCodes_37 : decode cX8_layCodes 37 = .ok (.aload_n 0, 1) := by decide +kernel
theorem dX8_layCodes_38 : decode cX8_layCodes 38 = .ok (.iload_n 1, 1) := by decide +kernel
theorem dX8_layCodes_39 : decode cX8_layCodes 39 = .ok (.bipush 6, 2) := by decide +kernel
theorem dX8_layCodes_41 : decode cX8_layCodes 41 = .ok (.irem, 1) := by decide +kernel
theorem dX8_layCodes_42 : decode cX8_layCodes 42 = .ok (.iload_n 2, 1) := by decide +kernel
theorem dX8_layCodes_43 : decode cX8_layCodes 43 = .ok (.invokevirtual 151, 3) := by decide +kernel
theorem dX8_layCodes_46 : decode cX8_layCodes 46 = .ok (.iastore, 1) := by decide +kernel
theorem dX8_layCodes_47 : decode cX8_layCodes 47 = .ok (.iinc 1 1, 3) := by decide +kernel
theorem dX8_layCodes_50 : decode cX8_layCodes 50 = .ok (.goto (-48), 3) := by decide +kernel
theorem dX8_layCodes_53 : decode cX8_layCodes 53 = .ok (.return_, 1) := by decide +kernel
set_option maxRecDepth 20000 in
theorem ggX8_lay_X8_allThere : GoodIn wsX8_lay wsX8_allThere := goodIn_r _ [5, 6, 7, 8, 40, 41, 42, 43, 44, 45, 46, 47, 48, 49, 50, 51, 52, 53, 54, 55, 56, 57, 58, 59, 60, 61, 62, 63, 64, 65, 66] (by decide +kernel) (by decide +kernel)
set_option maxRecDepth 20000 in
theorem gX8_lay_X8_allThere : GoodIn wsX8_lay (wsV RX8 148 RX8 yX8_allThere wsX8_allThere) := goodIn_app (goodIn_of _ (by decide +kernel)) ggX8_lay_X8_allThere
set_option maxRecDepth 20000 in
theorem ggX8_lay_X8_layWorks : GoodIn wsX8_lay wsX8_layWorks := goodIn_r _ [12, 13, 14, 15, 16, 17, 40, 41, 42, 43, 44, 45, 46, 47, 48, 49, 50, 51, 52, 53, 54, 55, 56, 57, 58, 59, 60, 61, 62, 63, 64, 65, 66] (by decide +kernel) (by decide +kernel)
set_option maxRecDepth 20000 in
theorem gX8_lay_X8_layWorks : GoodIn wsX8_lay (wsV RX8 178 RX8 yX8_layWorks wsX8_layWorks) := goodIn_app (goodIn_of _ (by decide +kernel)) ggX8_lay_X8_layWorks
set_option maxRecDepth 20000 in
theorem ggX8_lay_X8_layCodes : GoodIn wsX8_lay wsX8_layCodes := goodIn_r _ [21, 14, 15, 22, 23, 24, 25, 4, 26, 27, 28, 29, 30, 31, 7, 32, 33, 34, 35, 8, 6, 36, 37, 38, 39, 40, 41, 42, 43, 44, 45, 46, 47, 48, 49, 50, 51, 52, 53, 54, 55, 56, 57, 58, 59, 60, 61, 62, 63, 64, 65, 66] (by decide +kernel) (by decide +kernel)
set_option maxRecDepth 20000 in
theorem gX8_lay_X8_layCodes : GoodIn wsX8_lay (wsV RX8 182 RX8 yX8_layCodes wsX8_layCodes) := goodIn_app (goodIn_of _ (by decide +kernel)) ggX8_lay_X8_layCodes
theorem dX8_lay_0 : decode cX8_lay 0 = .ok (.aload_n 0, 1) := by decide +kernel
theorem dX8_lay_1 : decode cX8_lay 1 = .ok (.invokevirtual 148, 3) := by decide +kernel
theorem dX8_lay_4 : decode cX8_lay 4 = .ok (.aload_n 0, 1) := by decide +kernel
theorem dX8_lay_5 : decode cX8_lay 5 = .ok (.iload_n 1, 1) := by decide +kernel
theorem dX8_lay_6 : decode cX8_lay 6 = .ok (.invokevirtual 178, 3) := by decide +kernel
theorem dX8_lay_9 : decode cX8_lay 9 = .ok (.aload_n 0, 1) := by decide +kernel
theorem dX8_lay_10 : decode cX8_lay 10 = .ok (.invokevirtual 182, 3) := by decide +kernel
theorem dX8_lay_13 : decode cX8_lay 13 = .ok (.return_, 1) := by decide +kernel
theorem dX8_hands_0 : decode cX8_hands 0 = .ok (.aload_n 0, 1) := by decide +kernel
theorem dX8_hands_1 : decode cX8_hands 1 = .ok (.getfield 49, 3) := by decide +kernel
theorem dX8_hands_4 : decode cX8_hands 4 = .ok (.bipush 12, 2) := by decide +kernel
theorem dX8_hands_6 : decode cX8_hands 6 = .ok (.iload_n 1, 1) := by decide +kernel
theorem dX8_hands_7 : decode cX8_hands 7 = .ok (.imul, 1) := by decide +kernel
theorem dX8_hands_8 : decode cX8_hands 8 = .ok (.bipush 6, 2) := by decide +kernel
theorem dX8_hands_10 : decode cX8_hands 10 = .ok (.iload_n 2, 1) := by decide +kernel
theorem dX8_hands_11 : decode cX8_hands 11 = .ok (.imul, 1) := by decide +kernel
theorem dX8_hands_12 : decode cX8_hands 12 = .ok (.iadd, 1) := by decide +kernel
theorem dX8_hands_13 : decode cX8_hands 13 = .ok (.iload_n 3, 1) := by decide +kernel
theorem dX8_hands_14 : decode cX8_hands 14 = .ok (.iadd, 1) := by decide +kernel
theorem dX8_hands_15 : decode cX8_hands 15 = .ok (.iaload, 1) := by decide +kernel
theorem dX8_hands_16 : decode cX8_hands 16 = .ok (.istore 4, 2) := by decide +kernel
theorem dX8_hands_18 : decode cX8_hands 18 = .ok (.iconst 1, 1) := by decide +kernel
theorem dX8_hands_19 : decode cX8_hands 19 = .ok (.iload_n 3, 1) := by decide +kernel
theorem dX8_hands_20 : decode cX8_hands 20 = .ok (.ishl, 1) := by decide +kernel
theorem dX8_hands_21 : decode cX8_hands 21 = .ok (.iload 4, 2) := by decide +kernel
theorem dX8_hands_23 : decode cX8_hands 23 = .ok (.iconst 1, 1) := by decide +kernel
theorem dX8_hands_24 : decode cX8_hands 24 = .ok (.if_icmp .le 12, 3) := by decide +kernel
theorem dX8_hands_27 : decode cX8_hands 27 = .ok (.iconst 1, 1) := by decide +kernel
theorem dX8_hands_28 : decode cX8_hands 28 = .ok (.iload 4, 2) := by decide +kernel
theorem dX8_hands_30 : decode cX8_hands 30 = .ok (.iconst 2, 1) := by decide +kernel
theorem dX8_hands_31 : decode cX8_hands 31 = .ok (.isub, 1) := by decide +kernel
theorem dX8_hands_32 : decode cX8_hands 32 = .ok (.ishl, 1) := by decide +kernel
theorem dX8_hands_33 : decode cX8_hands 33 = .ok (.goto 4, 3) := by decide +kernel
theorem dX8_hands_36 : decode cX8_hands 36 = .ok (.iconst 0, 1) := by decide +kernel
theorem dX8_hands_37 : decode cX8_hands 37 = .ok (.ior, 1) := by decide +kernel
theorem dX8_hands_38 : decode cX8_hands 38 = .ok (.ireturn, 1) := by decide +kernel
set_option maxRecDepth 20000 in
theorem ggX8_goes_X8_hands : GoodIn wsX8_goes wsX8_hands := goodIn_r _ [6, 1, 7, 8, 9, 10, 11, 12, 13, 14, 15, 16, 17, 18, 19, 20, 21, 22, 23, 24, 25, 26, 27, 28, 29, 30, 31, 32, 33] (by decide +kernel) (by decide +kernel)
set_option maxRecDepth 20000 in
theorem gX8_goes_X8_hands : GoodIn wsX8_goes (wsV RX8 185 RX8 yX8_hands wsX8_hands) := goodIn_app (goodIn_of _ (by decide +kernel)) ggX8_goes_X8_hands
theorem dX8_goes_0 : decode cX8_goes 0 = .ok (.aload_n 0, 1) := by decide +kernel
theorem dX8_goes_1 : decode cX8_goes 1 = .ok (.getfield 49, 3) := by decide +kernel
theorem dX8_goes_4 : decode cX8_goes 4 = .ok (.bipush 12, 2) := by decide +kernel
theorem dX8_goes_6 : decode cX8_goes 6 = .ok (.iload_n 1, 1) := by decide +kernel
theorem dX8_goes_7 : decode cX8_goes 7 = .ok (.imul, 1) := by decide +kernel
theorem dX8_goes_8 : decode cX8_goes 8 = .ok (.bipush 6, 2) := by decide +kernel
theorem dX8_goes_10 : decode cX8_goes 10 = .ok (.iload_n 2, 1) := by decide +kernel
theorem dX8_goes_11 : decode cX8_goes 11 = .ok (.imul, 1) := by decide +kernel
theorem dX8_goes_12 : decode cX8_goes 12 = .ok (.iadd, 1) := by decide +kernel
theorem dX8_goes_13 : decode cX8_goes 13 = .ok (.iload_n 3, 1) := by decide +kernel
theorem dX8_goes_14 : decode cX8_goes 14 = .ok (.iadd, 1) := by decide +kernel
theorem dX8_goes_15 : decode cX8_goes 15 = .ok (.iaload, 1) := by decide +kernel
theorem dX8_goes_16 : decode cX8_goes 16 = .ok (.ifCond .le 22, 3) := by decide +kernel
theorem dX8_goes_19 : decode cX8_goes 19 = .ok (.aload_n 0, 1) := by decide +kernel
theorem dX8_goes_20 : decode cX8_goes 20 = .ok (.iload_n 1, 1) := by decide +kernel
theorem dX8_goes_21 : decode cX8_goes 21 = .ok (.iload_n 2, 1) := by decide +kernel
theorem dX8_goes_22 : decode cX8_goes 22 = .ok (.iload_n 3, 1) := by decide +kernel
theorem dX8_goes_23 : decode cX8_goes 23 = .ok (.invokevirtual 185, 3) := by decide +kernel
theorem dX8_goes_26 : decode cX8_goes 26 = .ok (.iload 4, 2) := by decide +kernel
theorem dX8_goes_28 : decode cX8_goes 28 = .ok (.iconst (-1), 1) := by decide +kernel
theorem dX8_goes_29 : decode cX8_goes 29 = .ok (.ixor, 1) := by decide +kernel
theorem dX8_goes_30 : decode cX8_goes 30 = .ok (.iand, 1) := by decide +kernel
theorem dX8_goes_31 : decode cX8_goes 31 = .ok (.ifCond .ne 7, 3) := by decide +kernel
theorem dX8_goes_34 : decode cX8_goes 34 = .ok (.iconst 1, 1) := by decide +kernel
theorem dX8_goes_35 : decode cX8_goes 35 = .ok (.goto 4, 3) := by decide +kernel
theorem dX8_goes_38 : decode cX8_goes 38 = .ok (.iconst 0, 1) := by decide +kernel
theorem dX8_goes_39 : decode cX8_goes 39 = .ok (.ireturn, 1) := by decide +kernel
set_option maxRecDepth 20000 in
theorem ggX8_makes_X8_goes : GoodIn wsX8_makes wsX8_goes := goodIn_r _ [6, 7, 8, 9, 10, 5, 11, 12, 13, 14, 15, 16, 17, 18, 19, 20, 21, 22, 23, 24, 25, 26, 27, 28, 29, 30, 31, 32, 33, 34, 35, 36, 37, 38] (by decide +kernel) (by decide +kernel)
set_option maxRecDepth 20000 in
theorem gX8_makes_X8_goes : GoodIn wsX8_makes (wsV RX8 189 RX8 yX8_goes wsX8_goes) := goodIn_app (goodIn_of _ (by decide +kernel)) ggX8_makes_X8_goes
theorem dX8_makes_0 : decode cX8_makes 0 = .ok (.iconst 1, 1) := by decide +kernel
theorem dX8_makes_1 : decode cX8_makes 1 = .ok (.istore_n 2, 1) := by decide +kernel
theorem dX8_makes_2 : decode cX8_makes 2 = .ok (.iconst 0, 1) := by decide +kernel
theorem dX8_makes_3 : decode cX8_makes 3 = .ok (.istore_n 3, 1) := by decide +kernel
theorem dX8_makes_4 : decode cX8_makes 4 = .ok (.iload_n 3, 1) := by decide +kernel
theorem dX8_makes_5 : decode cX8_makes 5 = .ok (.aload_n 0, 1) := by decide +kernel
theorem dX8_makes_6 : decode cX8_makes 6 = .ok (.getfield 175, 3) := by decide +kernel
theorem dX8_makes_9 : decode cX8_makes 9 = .ok (.if_icmp .ge 74, 3) := by decide +kernel
theorem dX8_makes_12 : decode cX8_makes 12 = .ok (.iconst 0, 1) := by decide +kernel
theorem dX8_makes_13 : decode cX8_makes 13 = .ok (.istore 4, 2) := by decide +kernel
theorem dX8_makes_15 : decode cX8_makes 15 = .ok (.iconst 0, 1) := by decide +kernel
theorem dX8_makes_16 : decode cX8_makes 16 = .ok (.istore 5, 2) := by decide +kernel
theorem dX8_makes_18 : decode cX8_makes 18 = .ok (.iload 5, 2) := by decide +kernel
theorem dX8_makes_20 : decode cX8_makes 20 = .ok (.bipush 12, 2) := by decide +kernel
theorem dX8_makes_22 : decode cX8_makes 22 = .ok (.if_icmp .ge 40, 3) := by decide +kernel
theorem dX8_makes_25 : decode cX8_makes 25 = .ok (.iload 4, 2) := by decide +kernel
theorem dX8_makes_27 : decode cX8_makes 27 = .ok (.ifCond .ne 22, 3) := by decide +kernel
theorem dX8_makes_30 : decode cX8_makes 30 = .ok (.aload_n 0, 1) := by decide +kernel
theorem dX8_makes_31 : decode cX8_makes 31 = .ok (.iload_n 3, 1) := by decide +kernel
theorem dX8_makes_32 : decode cX8_makes 32 = .ok (.iload 5, 2) := by decide +kernel
theorem dX8_makes_34 : decode cX8_makes 34 = .ok (.bipush 6, 2) := by decide +kernel
theorem dX8_makes_36 : decode cX8_makes 36 = .ok (.idiv, 1) := by decide +kernel
theorem dX8_makes_37 : decode cX8_makes 37 = .ok (.iload 5, 2) := by decide +kernel
theorem dX8_makes_39 : decode cX8_makes 39 = .ok (.bipush 6, 2) := by decide +kernel
theorem dX8_makes_41 : decode cX8_makes 41 = .ok (.irem, 1) := by decide +kernel
theorem dX8_makes_42 : decode cX8_makes 42 = .ok (.iload_n 1, 1) := by decide +kernel
theorem dX8_makes_43 : decode cX8_makes 43 = .ok (.invokevirtual 189, 3) := by decide +kernel
theorem dX8_makes_46 : decode cX8_makes 46 = .ok (.ifCond .eq 7, 3) := by decide +kernel
theorem dX8_makes_49 : decode cX8_makes 49 = .ok (.iconst 1, 1) := by decide +kernel
theorem dX8_makes_50 : decode cX8_makes 50 = .ok (.goto 4, 3) := by decide +kernel
theorem dX8_makes_53 : decode cX8_makes 53 = .ok (.iconst 0, 1) := by decide +kernel
theorem dX8_makes_54 : decode cX8_makes 54 = .ok (.istore 4, 2) := by decide +kernel
theorem dX8_makes_56 : decode cX8_makes 56 = .ok (.iinc 5 1, 3) := by decide +kernel
theorem dX8_makes_59 : decode cX8_makes 59 = .ok (.goto (-41), 3) := by decide +kernel
theorem dX8_makes_62 : decode cX8_makes 62 = .ok (.iload_n 2, 1) := by decide +kernel
theorem dX8_makes_63 : decode cX8_makes 63 = .ok (.ifCond .eq 12, 3) := by decide +kernel
theorem dX8_makes_66 : decode cX8_makes 66 = .ok (.iload 4, 2) := by decide +kernel
theorem dX8_makes_68 : decode cX8_makes 68 = .ok (.ifCond .eq 7, 3) := by decide +kernel
theorem dX8_makes_71 : decode cX8_makes 71 = .ok (.iconst 1, 1) := by decide +kernel
theorem dX8_makes_72 : decode cX8_makes 72 = .ok (.goto 4, 3) := by decide +kernel
theorem dX8_makes_75 : decode cX8_makes 75 = .ok (.iconst 0, 1) := by decide +kernel
theorem dX8_makes_76 : decode cX8_makes 76 = .ok (.istore_n 2, 1) := by decide +kernel
theorem dX8_makes_77 : decode cX8_makes 77 = .ok (.iinc 3 1, 3) := by decide +kernel
theorem dX8_makes_80 : decode cX8_makes 80 = .ok (.goto (-76), 3) := by decide +kernel
theorem dX8_makes_83 : decode cX8_makes 83 = .ok (.iload_n 2, 1) := by decide +kernel
theorem dX8_makes_84 : decode cX8_makes 84 = .ok (.ireturn, 1) := by decide +kernel
set_option maxRecDepth 20000 in
theorem ggX8_leastSet_X8_many : GoodIn wsX8_leastSet wsX8_many := goodIn_r _ [4] (by decide +kernel) (by decide +kernel)
set_option maxRecDepth 20000 in
theorem gX8_leastSet_X8_many : GoodIn wsX8_leastSet (va_wsS RX8 157 yX8_many wsX8_many) := goodIn_app (goodIn_of _ (by decide +kernel)) ggX8_leastSet_X8_many
set_option maxRecDepth 20000 in
theorem ggX8_leastSet_X8_makes : GoodIn wsX8_leastSet wsX8_makes := goodIn_r _ [8, 9, 10, 11, 12, 3, 13, 14, 15, 16, 17, 18, 19, 20, 21, 22, 23, 24, 25, 26, 27, 28, 29, 30, 31, 32, 33, 34, 35, 36, 37, 38, 39, 40, 41, 42, 43, 44, 45] (by decide +kernel) (by decide +kernel)
set_option maxRecDepth 20000 in
theorem gX8_leastSet_X8_makes : GoodIn wsX8_leastSet (wsV RX8 193 RX8 yX8_makes wsX8_makes) := goodIn_app (goodIn_of _ (by decide +kernel)) ggX8_leastSet_X8_makes
theorem dX8_leastSet_0 : decode cX8_leastSet 0 = .ok (.iconst (-1), 1) := by decide +kernel
theorem dX8_leastSet_1 : decode cX8_leastSet 1 = .ok (.istore_n 1, 1) := by decide +kernel
theorem dX8_leastSet_2 : decode cX8_leastSet 2 = .ok (.iconst 0, 1) := by decide +kernel
theorem dX8_leastSet_3 : decode cX8_leastSet 3 = .ok (.istore_n 2, 1) := by decide +kernel
theorem dX8_leastSet_4 : decode cX8_leastSet 4 = .ok (.iload_n 2, 1) := by decide +kernel
theorem dX8_leastSet_5 : decode cX8_leastSet 5 = .ok (.bipush 64, 2) := by decide +kernel
theorem dX8_leastSet_7 : decode cX8_leastSet 7 = .ok (.if_icmp .ge 49, 3) := by decide +kernel
theorem dX8_leastSet_10 : decode cX8_leastSet 10 = .ok (.iload_n 1, 1) := by decide +kernel
theorem dX8_leastSet_11 : decode cX8_leastSet 11 = .ok (.iconst (-1), 1) := by decide +kernel
theorem dX8_leastSet_12 : decode cX8_leastSet 12 = .ok (.if_icmp .eq 14, 3) := by decide +kernel
theorem dX8_leastSet_15 : decode cX8_leastSet 15 = .ok (.iload_n 2, 1) := by decide +kernel
theorem dX8_leastSet_16 : decode cX8_leastSet 16 = .ok (.invokestatic 157, 3) := by decide +kernel
theorem dX8_leastSet_19 : decode cX8_leastSet 19 = .ok (.iload_n 1, 1) := by decide +kernel
theorem dX8_leastSet_20 : decode cX8_leastSet 20 = .ok (.invokestatic 157, 3) := by decide +kernel
theorem dX8_leastSet_23 : decode cX8_leastSet 23 = .ok (.if_icmp .ge 15, 3) := by decide +kernel
theorem dX8_leastSet_26 : decode cX8_leastSet 26 = .ok (.aload_n 0, 1) := by decide +kernel
theorem dX8_leastSet_27 : decode cX8_leastSet 27 = .ok (.iload_n 2, 1) := by decide +kernel
theorem dX8_leastSet_28 : decode cX8_leastSet 28 = .ok (.invokevirtual 193, 3) := by decide +kernel
theorem dX8_leastSet_31 : decode cX8_leastSet 31 = .ok (.ifCond .eq 7, 3) := by decide +kernel
theorem dX8_leastSet_34 : decode cX8_leastSet 34 = .ok (.iconst 1, 1) := by decide +kernel
theorem dX8_leastSet_35 : decode cX8_leastSet 35 = .ok (.goto 4, 3) := by decide +kernel
theorem dX8_leastSet_38 : decode cX8_leastSet 38 = .ok (.iconst 0, 1) := by decide +kernel
theorem dX8_leastSet_39 : decode cX8_leastSet 39 = .ok (.istore_n 3, 1) := by decide +kernel
theorem dX8_leastSet_40 : decode cX8_leastSet 40 = .ok (.iload_n 3, 1) := by decide +kernel
theorem dX8_leastSet_41 : decode cX8_leastSet 41 = .ok (.ifCond .eq 7, 3) := by decide +kernel
theorem dX8_leastSet_44 : decode cX8_leastSet 44 = .ok (.iload_n 2, 1) := by decide +kernel
theorem dX8_leastSet_45 : decode cX8_leastSet 45 = .ok (.goto 4, 3) := by decide +kernel
theorem dX8_leastSet_48 : decode cX8_leastSet 48 = .ok (.iload_n 1, 1) := by decide +kernel
theorem dX8_leastSet_49 : decode cX8_leastSet 49 = .ok (.istore_n 1, 1) := by decide +kernel
theorem dX8_leastSet_50 : decode cX8_leastSet 50 = .ok (.iinc 2 1, 3) := by decide +kernel
theorem dX8_leastSet_53 : decode cX8_leastSet 53 = .ok (.goto (-49), 3) := by decide +kernel
theorem dX8_leastSet_56 : decode cX8_leastSet 56 = .ok (.iload_n 1, 1) := by decide +kernel
theorem dX8_leastSet_57 : decode cX8_leastSet 57 = .ok (.ireturn, 1) := by decide +kernel
set_option maxRecDepth 20000 in
theorem ggX8_needed_X8_leastSet : GoodIn wsX8_needed wsX8_leastSet := goodIn_r _ [5, 6, 7, 4, 8, 9, 10, 11, 12, 13, 14, 15, 16, 17, 18, 19, 20, 21, 22, 23, 24, 25, 26, 27, 28, 29, 30, 31, 32, 33, 34, 35, 36, 37, 38, 39, 40, 41, 42, 43, 44, 45, 46, 47, 48, 49] (by decide +kernel) (by decide +kernel)
set_option maxRecDepth 20000 in
theorem gX8_needed_X8_leastSet : GoodIn wsX8_needed (wsV RX8 196 RX8 yX8_leastSet wsX8_leastSet) := goodIn_app (goodIn_of _ (by decide +kernel)) ggX8_needed_X8_leastSet
set_option maxRecDepth 20000 in
theorem ggX8_needed_X8_many : GoodIn wsX8_needed wsX8_many := goodIn_r _ [8] (by decide +kernel) (by decide +kernel)
set_option maxRecDepth 20000 in
theorem gX8_needed_X8_many : GoodIn wsX8_needed (va_wsS RX8 157 yX8_many wsX8_many) := goodIn_app (goodIn_of _ (by decide +kernel)) ggX8_needed_X8_many
theorem dX8_needed_0 : decode cX8_needed 0 = .ok (.aload_n 0, 1) := by decide +kernel
theorem dX8_needed_1 : decode cX8_needed 1 = .ok (.invokevirtual 196, 3) := by decide +kernel
theorem dX8_needed_4 : decode cX8_needed 4 = .ok (.istore_n 1, 1) := by decide +kernel
theorem dX8_needed_5 : decode cX8_needed 5 = .ok (.iload_n 1, 1) := by decide +kernel
theorem dX8_needed_6 : decode cX8_needed 6 = .ok (.iconst (-1), 1) := by decide +kernel
theorem dX8_needed_7 : decode cX8_needed 7 = .ok (.if_icmp .ne 8, 3) := by decide +kernel
theorem dX8_needed_10 : decode cX8_needed 10 = .ok (.bipush 7, 2) := by decide +kernel
theorem dX8_needed_12 : decode cX8_needed 12 = .ok (.goto 7, 3) := by decide +kernel
theorem dX8_needed_15 : decode cX8_needed 15 = .ok (.iload_n 1, 1) := by decide +kernel
theorem dX8_needed_16 : decode cX8_needed 16 = .ok (.invokestatic 157, 3) := by decide +kernel
theorem dX8_needed_19 : decode cX8_needed 19 = .ok (.ireturn, 1) := by decide +kernel
set_option maxRecDepth 20000 in
theorem ggX8_wrongStep_X8_lay : GoodIn wsX8_wrongStep wsX8_lay := goodIn_r _ [7, 8, 9, 10, 6, 11, 12, 13, 14, 15, 16, 17, 18, 19, 1, 20, 21, 22, 23, 24, 25, 26, 2, 27, 28, 29, 30, 31, 32, 33, 34, 35, 36, 37, 38, 39, 40, 41, 42, 43, 51, 52, 53, 54, 55, 56, 57, 58, 59, 60, 61, 62, 63, 64, 65, 66, 67, 68, 69, 70, 71, 72, 73, 74, 75, 76, 77] (by decide +kernel) (by decide +kernel)
set_option maxRecDepth 20000 in
theorem gX8_wrongStep_X8_lay : GoodIn wsX8_wrongStep (wsV RX8 199 RX8 yX8_lay wsX8_lay) := goodIn_app (goodIn_of _ (by decide +kernel)) ggX8_wrongStep_X8_lay
set_option maxRecDepth 20000 in
theorem ggX8_wrongStep_X8_isGuild : GoodIn wsX8_wrongStep wsX8_isGuild := goodIn_r _ [46, 47, 48, 49, 6, 50] (by decide +kernel) (by decide +kernel)
set_option maxRecDepth 20000 in
theorem gX8_wrongStep_X8_isGuild : GoodIn wsX8_wrongStep (va_wsS RX8 142 yX8_isGuild wsX8_isGuild) := goodIn_app (goodIn_of _ (by decide +kernel)) ggX8_wrongStep_X8_isGuild
theorem dX8_wrongStep_0 : decode cX8_wrongStep 0 = .ok (.aload_n 0, 1) := by decide +kernel
theorem dX8_wrongStep_1 : decode cX8_wrongStep 1 = .ok (.iload_n 1, 1) := by decide +kernel
theorem dX8_wrongStep_2 : decode cX8_wrongStep 2 = .ok (.invokevirtual 199, 3) := by decide +kernel
theorem dX8_wrongStep_5 : decode cX8_wrongStep 5 = .ok (.iconst 0, 1) := by decide +kernel
theorem dX8_wrongStep_6 : decode cX8_wrongStep 6 = .ok (.istore 4, 2) := by decide +kernel
theorem dX8_wrongStep_8 : decode cX8_wrongStep 8 = .ok (.iload 4, 2) := by decide +kernel
theorem dX8_wrongStep_10 : decode cX8_wrongStep 10 = .ok (.aload_n 0, 1) := by decide +kernel
theorem dX8_wrongStep_11 : decode cX8_wrongStep 11 = .ok (.getfield 175, 3) := by decide +kernel
theorem dX8_wrongStep_14 : decode cX8_wrongStep 14 = .ok (.if_icmp .ge 57, 3) := by decide +kernel
theorem dX8_wrongStep_17 : decode cX8_wrongStep 17 = .ok (.iload_n 2, 1) := by decide +kernel
theorem dX8_wrongStep_18 : decode cX8_wrongStep 18 = .ok (.iconst 3, 1) := by decide +kernel
theorem dX8_wrongStep_19 : decode cX8_wrongStep 19 = .ok (.iload 4, 2) := by decide +kernel
theorem dX8_wrongStep_21 : decode cX8_wrongStep 21 = .ok (.imul, 1) := by decide +kernel
theorem dX8_wrongStep_22 : decode cX8_wrongStep 22 = .ok (.ishr, 1) := by decide +kernel
theorem dX8_wrongStep_23 : decode cX8_wrongStep 23 = .ok (.bipush 7, 2) := by decide +kernel
theorem dX8_wrongStep_25 : decode cX8_wrongStep 25 = .ok (.iand, 1) := by decide +kernel
theorem dX8_wrongStep_26 : decode cX8_wrongStep 26 = .ok (.istore 5, 2) := by decide +kernel
theorem dX8_wrongStep_28 : decode cX8_wrongStep 28 = .ok (.iload 5, 2) := by decide +kernel
theorem dX8_wrongStep_30 : decode cX8_wrongStep 30 = .ok (.invokestatic 142, 3) := by decide +kernel
theorem dX8_wrongStep_33 : decode cX8_wrongStep 33 = .ok (.ifCond .eq 29, 3) := by decide +kernel
theorem dX8_wrongStep_36 : decode cX8_wrongStep 36 = .ok (.aload_n 0, 1) := by decide +kernel
theorem dX8_wrongStep_37 : decode cX8_wrongStep 37 = .ok (.getfield 49, 3) := by decide +kernel
theorem dX8_wrongStep_40 : decode cX8_wrongStep 40 = .ok (.bipush 12, 2) := by decide +kernel
theorem dX8_wrongStep_42 : decode cX8_wrongStep 42 = .ok (.iload 4, 2) := by decide +kernel
theorem dX8_wrongStep_44 : decode cX8_wrongStep 44 = .ok (.imul, 1) := by decide +kernel
theorem dX8_wrongStep_45 : decode cX8_wrongStep 45 = .ok (.bipush 6, 2) := by decide +kernel
theorem dX8_wrongStep_47 : decode cX8_wrongStep 47 = .ok (.iload_n 3, 1) := by decide +kernel
theorem dX8_wrongStep_48 : decode cX8_wrongStep 48 = .ok (.iload 4, 2) := by decide +kernel
theorem dX8_wrongStep_50 : decode cX8_wrongStep 50 = .ok (.ishr, 1) := by decide +kernel
theorem dX8_wrongStep_51 : decode cX8_wrongStep 51 = .ok (.iconst 1, 1) := by decide +kernel
theorem dX8_wrongStep_52 : decode cX8_wrongStep 52 = .ok (.iand, 1) := by decide +kernel
theorem dX8_wrongStep_53 : decode cX8_wrongStep 53 = .ok (.imul, 1) := by decide +kernel
theorem dX8_wrongStep_54 : decode cX8_wrongStep 54 = .ok (.iadd, 1) := by decide +kernel
theorem dX8_wrongStep_55 : decode cX8_wrongStep 55 = .ok (.iload 5, 2) := by decide +kernel
theorem dX8_wrongStep_57 : decode cX8_wrongStep 57 = .ok (.iadd, 1) := by decide +kernel
theorem dX8_wrongStep_58 : decode cX8_wrongStep 58 = .ok (.iaload, 1) := by decide +kernel
theorem dX8_wrongStep_59 : decode cX8_wrongStep 59 = .ok (.ifCond .ne 6, 3) := by decide +kernel
theorem dX8_wrongStep_62 : decode cX8_wrongStep 62 = .ok (.iload 4, 2) := by decide +kernel
theorem dX8_wrongStep_64 : decode cX8_wrongStep 64 = .ok (.ireturn, 1) := by decide +kernel
theorem dX8_wrongStep_65 : decode cX8_wrongStep 65 = .ok (.iinc 4 1, 3) := by decide +kernel
theorem dX8_wrongStep_68 : decode cX8_wrongStep 68 = .ok (.goto (-60), 3) := by decide +kernel
theorem dX8_wrongStep_71 : decode cX8_wrongStep 71 = .ok (.iconst (-1), 1) := by decide +kernel
theorem dX8_wrongStep_72 : decode cX8_wrongStep 72 = .ok (.ireturn, 1) := by decide +kernel
set_option maxRecDepth 20000 in
theorem ggX8_judge_X8_isThing : GoodIn wsX8_judge wsX8_isThing := goodIn_r _ [4, 5, 6, 7, 3, 8] (by decide +kernel) (by decide +kernel)
set_option maxRecDepth 20000 in
theorem gX8_judge_X8_isThing : GoodIn wsX8_judge (va_wsS RX8 165 yX8_isThing wsX8_isThing) := goodIn_app (goodIn_of _ (by decide +kernel)) ggX8_judge_X8_isThing
set_option maxRecDepth 20000 in
theorem ggX8_judge_X8_wrongStep : GoodIn wsX8_judge wsX8_wrongStep := goodIn_r _ [12, 13, 14, 15, 16, 17, 3, 18, 19, 20, 21, 22, 23, 24, 25, 26, 27, 28, 29, 30, 31, 32, 33, 34, 35, 36, 37, 38, 39, 40, 41, 42, 43, 44, 45, 46, 47, 48, 49, 50, 51, 52, 53, 54, 55, 56, 57, 5, 6, 7, 8, 58, 59, 60, 61, 62, 63, 64, 65, 66, 67, 68, 69, 70, 71, 72, 73, 74, 75, 76, 77, 78, 79, 80, 81, 82, 83, 84] (by decide +kernel) (by decide +kernel)
set_option maxRecDepth 20000 in
theorem gX8_judge_X8_wrongStep : GoodIn wsX8_judge (wsV RX8 202 RX8 yX8_wrongStep wsX8_wrongStep) := goodIn_app (goodIn_of _ (by decide +kernel)) ggX8_judge_X8_wrongStep
theorem dX8_judge_0 : decode cX8_judge 0 = .ok (.iload_n 1, 1) := by decide +kernel
theorem dX8_judge_1 : decode cX8_judge 1 = .ok (.invokestatic 165, 3) := by decide +kernel
theorem dX8_judge_4 : decode cX8_judge 4 = .ok (.ifCond .eq 13, 3) := by decide +kernel
theorem dX8_judge_7 : decode cX8_judge 7 = .ok (.aload_n 0, 1) := by decide +kernel
theorem dX8_judge_8 : decode cX8_judge 8 = .ok (.iload_n 1, 1) := by decide +kernel
theorem dX8_judge_9 : decode cX8_judge 9 = .ok (.iload_n 2, 1) := by decide +kernel
theorem dX8_judge_10 : decode cX8_judge 10 = .ok (.iload_n 3, 1) := by decide +kernel
theorem dX8_judge_11 : decode cX8_judge 11 = .ok (.invokevirtual 202, 3) := by decide +kernel
theorem dX8_judge_14 : decode cX8_judge 14 = .ok (.goto 5, 3) := by decide +kernel
theorem dX8_judge_17 : decode cX8_judge 17 = .ok (.bipush (-2), 2) := by decide +kernel
theorem dX8_judge_19 : decode cX8_judge 19 = .ok (.ireturn, 1) := by decide +kernel
theorem dX8_stepCost_0 : decode cX8_stepCost 0 = .ok (.iload 4, 2) := by decide +kernel
theorem dX8_stepCost_2 : decode cX8_stepCost 2 = .ok (.iconst (-1), 1) := by decide +kernel
theorem dX8_stepCost_3 : decode cX8_stepCost 3 = .ok (.if_icmp .eq 13, 3) := by decide +kernel
theorem dX8_stepCost_6 : decode cX8_stepCost 6 = .ok (.iload 4, 2) := by decide +kernel
theorem dX8_stepCost_8 : decode cX8_stepCost 8 = .ok (.iload_n 3, 1) := by decide +kernel

theorem dX0_init_0 : decode cX0_init 0 = .ok (.aload_n 0, 1) := by decide +kernel
theorem dX0_init_1 : decode cX0_init 1 = .ok (.invokespecial 3, 3) := by decide +kernel
theorem dX0_init_4 : decode cX0_init 4 = .ok (.aload_n 0, 1) := by decide +kernel
theorem dX0_init_5 : decode cX0_init 5 = .ok (.sipush 140, 3) := by decide +kernel
theorem dX0_init_8 : decode cX0_init 8 = .ok (.newarray .int, 2) := by decide +kernel
theorem dX0_init_10 : decode cX0_init 10 = .ok (.putfield 9, 3) := by decide +kernel
theorem dX0_init_13 : decode cX0_init 13 = .ok (.aload_n 0, 1) := by decide +kernel
theorem dX0_init_14 : decode cX0_init 14 = .ok (.sipush 240, 3) := by decide +kernel
theorem dX0_init_17 : decode cX0_init 17 = .ok (.newarray .int, 2) := by decide +kernel
theorem dX0_init_19 : decode cX0_init 19 = .ok (.putfield 15, 3) := by decide +kernel
theorem dX0_init_22 : decode cX0_init 22 = .ok (.aload_n 0, 1) := by decide +kernel
theorem dX0_init_23 : decode cX0_init 23 = .ok (.bipush 6, 2) := by decide +kernel
theorem dX0_init_25 : decode cX0_init 25 = .ok (.newarray .int, 2) := by decide +kernel
theorem dX0_init_27 : decode cX0_init 27 = .ok (.putfield 18, 3) := by decide +kernel
theorem dX0_init_30 : decode cX0_init 30 = .ok (.aload_n 0, 1) := by decide +kernel
theorem dX0_init_31 : decode cX0_init 31 = .ok (.bipush 6, 2) := by decide +kernel
theorem dX0_init_33 : decode cX0_init 33 = .ok (.newarray .int, 2) := by decide +kernel
theorem dX0_init_35 : decode cX0_init 35 = .ok (.putfield 21, 3) := by decide +kernel
theorem dX0_init_38 : decode cX0_init 38 = .ok (.aload_n 0, 1) := by decide +kernel
theorem dX0_init_39 : decode cX0_init 39 = .ok (.bipush 6, 2) := by decide +kernel
theorem dX0_init_41 : decode cX0_init 41 = .ok (.newarray .int, 2) := by decide +kernel
theorem dX0_init_43 : decode cX0_init 43 = .ok (.putfield 24, 3) := by decide +kernel
theorem dX0_init_46 : decode cX0_init 46 = .ok (.aload_n 0, 1) := by decide +kernel
theorem dX0_init_47 : decode cX0_init 47 = .ok (.bipush 6, 2) := by decide +kernel
theorem dX0_init_49 : decode cX0_init 49 = .ok (.newarray .int, 2) := by decide +kernel
theorem dX0_init_51 : decode cX0_init 51 = .ok (.putfield 27, 3) := by decide +kernel
theorem dX0_init_54 : decode cX0_init 54 = .ok (.return_, 1) := by decide +kernel
theorem dX0_cell_0 : decode cX0_cell 0 = .ok (.aload_n 0, 1) := by decide +kernel
theorem dX0_cell_1 : decode cX0_cell 1 = .ok (.getfield 9, 3) := by decide +kernel
theorem dX0_cell_4 : decode cX0_cell 4 = .ok (.iload_n 1, 1) := by decide +kernel
theorem dX0_cell_5 : decode cX0_cell 5 = .ok (.bipush 7, 2) := by decide +kernel
theorem dX0_cell_7 : decode cX0_cell 7 = .ok (.imul, 1) := by decide +kernel
theorem dX0_cell_8 : decode cX0_cell 8 = .ok (.iload_n 2, 1) := by decide +kernel
theorem dX0_cell_9 : decode cX0_cell 9 = .ok (.iadd, 1) := by decide +kernel
theorem dX0_cell_10 : decode cX0_cell 10 = .ok (.iaload, 1) := by decide +kernel
theorem dX0_cell_11 : decode cX0_cell 11 = .ok (.ireturn, 1) := by decide +kernel
set_option maxRecDepth 20000 in
theorem ggX0_enact_X0_enter : GoodIn wsX0_enact wsX0_enter := goodIn_r _ [11, 12, 13, 14, 15, 16, 17, 18, 19, 10, 20, 1, 21, 22, 23, 24, 25, 26, 27, 28, 29, 30, 31, 32, 33, 34] (by decide +kernel) (by decide +kernel)
set_option maxRecDepth 20000 in
theorem gX0_enact_X0_enter : GoodIn wsX0_enact (wsV RX0 40 RX0 yX0_enter wsX0_enter) := goodIn_app (goodIn_of _ (by decide +kernel)) ggX0_enact_X0_enter
theorem dX0_enact_0 : decode cX0_enact 0 = .ok (.aload_n 1, 1) := by decide +kernel
theorem dX0_enact_1 : decode cX0_enact 1 = .ok (.iconst 0, 1) := by decide +kernel
theorem dX0_enact_2 : decode cX0_enact 2 = .ok (.aload_n 0, 1) := by decide +kernel
theorem dX0_enact_3 : decode cX0_enact 3 = .ok (.getfield 9, 3) := by decide +kernel
theorem dX0_enact_6 : decode cX0_enact 6 = .ok (.aload_n 0, 1) := by decide +kernel
theorem dX0_enact_7 : decode cX0_enact 7 = .ok (.getfield 30, 3) := by decide +kernel
theorem dX0_enact_10 : decode cX0_enact 10 = .ok (.bipush 7, 2) := by decide +kernel
theorem dX0_enact_12 : decode cX0_enact 12 = .ok (.imul, 1) := by decide +kernel
theorem dX0_enact_13 : decode cX0_enact 13 = .ok (.iload_n 2, 1) := by decide +kernel
theorem dX0_enact_14 : decode cX0_enact 14 = .ok (.bipush 7, 2) := by decide +kernel
theorem dX0_enact_16 : decode cX0_enact 16 = .ok (.imul, 1) := by decide +kernel
theorem dX0_enact_17 : decode cX0_enact 17 = .ok (.invokestatic 34, 3) := by decide +kernel
theorem dX0_enact_20 : decode cX0_enact 20 = .ok (.iconst 0, 1) := by decide +kernel
theorem dX0_enact_21 : decode cX0_enact 21 = .ok (.istore_n 3, 1) := by decide +kernel
theorem dX0_enact_22 : decode cX0_enact 22 = .ok (.iload_n 3, 1) := by decide +kernel
theorem dX0_enact_23 : decode cX0_enact 23 = .ok (.iload_n 2, 1) := by decide +kernel
theorem dX0_enact_24 : decode cX0_enact 24 = .ok (.if_icmp .ge 27, 3) := by decide +kernel
theorem dX0_enact_27 : decode cX0_enact 27 = .ok (.aload_n 0, 1) := by decide +kernel
theorem dX0_enact_28 : decode cX0_enact 28 = .ok (.aload_n 0, 1) := by decide +kernel
theorem dX0_enact_29 : decode cX0_enact 29 = .ok (.getfield 30, 3) := by decide +kernel
theorem dX0_enact_32 : decode cX0_enact 32 = .ok (.invokevirtual 40, 3) := by decide +kernel
theorem dX0_enact_35 : decode cX0_enact 35 = .ok (.aload_n 0, 1) := by decide +kernel
theorem dX0_enact_36 : decode cX0_enact 36 = .ok (.dup, 1) := by decide +kernel
theorem dX0_enact_37 : decode cX0_enact 37 = .ok (.getfield 30, 3) := by decide +kernel
theorem dX0_enact_40 : decode cX0_enact 40 = .ok (.iconst 1, 1) := by decide +kernel
theorem dX0_enact_41 : decode cX0_enact 41 = .ok (.iadd, 1) := by decide +kernel
theorem dX0_enact_42 : decode cX0_enact 42 = .ok (.putfield 30, 3) := by decide +kernel
theorem dX0_enact_45 : decode cX0_enact 45 = .ok (.iinc 3 1, 3) := by decide +kernel
theorem dX0_enact_48 : decode cX0_enact 48 = .ok (.goto (-26), 3) := by decide +kernel
theorem dX0_enact_51 : decode cX0_enact 51 = .ok (.return_, 1) := by decide +kernel
set_option maxRecDepth 20000 in
theorem ggX0_enter_X0_cell : GoodIn wsX0_enter wsX0_cell := goodIn_r _ [10, 11, 19, 20, 21, 22, 23, 24, 25] (by decide +kernel) (by decide +kernel)
set_option maxRecDepth 20000 in
theorem gX0_enter_X0_cell : GoodIn wsX0_enter (wsV RX0 44 RX0 yX0_cell wsX0_cell) := goodIn_app (goodIn_of _ (by decide +kernel)) ggX0_enter_X0_cell
set_option maxRecDepth 20000 in
theorem ggX0_enter_X0_reaches : GoodIn wsX0_enter wsX0_reaches := goodIn_r _ [15, 6, 7, 8, 9, 10, 11, 16, 17, 18, 19, 20, 21, 22, 23, 24, 25] (by decide +kernel) (by decide +kernel)
set_option maxRecDepth 20000 in
theorem gX0_enter_X0_reaches : GoodIn wsX0_enter (wsV RX0 48 RX0 yX0_reaches wsX0_reaches) := goodIn_app (goodIn_of _ (by decide +kernel)) ggX0_enter_X0_reaches
theorem dX0_enter_0 : decode cX0_enter 0 = .ok (.iconst 1, 1) := by decide +kernel
theorem dX0_enter_1 : decode cX0_enter 1 = .ok (.iload_n 1, 1) := by decide +kernel
theorem dX0_enter_2 : decode cX0_enter 2 = .ok (.ishl, 1) := by decide +kernel
theorem dX0_enter_3 : decode cX0_enter 3 = .ok (.istore_n 2, 1) := by decide +kernel
theorem dX0_enter_4 : decode cX0_enter 4 = .ok (.aload_n 0, 1) := by decide +kernel
theorem dX0_enter_5 : decode cX0_enter 5 = .ok (.iload_n 1, 1) := by decide +kernel
theorem dX0_enter_6 : decode cX0_enter 6 = .ok (.iconst 0, 1) := by decide +kernel
theorem dX0_enter_7 : decode cX0_enter 7 = .ok (.invokevirtual 44, 3) := by decide +kernel
theorem dX0_enter_10 : decode cX0_enter 10 = .ok (.istore_n 3, 1) := by decide +kernel
theorem dX0_enter_11 : decode cX0_enter 11 = .ok (.aload_n 0, 1) := by decide +kernel
theorem dX0_enter_12 : decode cX0_enter 12 = .ok (.iload_n 1, 1) := by decide +kernel
theorem dX0_enter_13 : decode cX0_enter 13 = .ok (.iconst 1, 1) := by decide +kernel
theorem dX0_enter_14 : decode cX0_enter 14 = .ok (.invokevirtual 44, 3) := by decide +kernel
theorem dX0_enter_17 : decode cX0_enter 17 = .ok (.istore 4, 2) := by decide +kernel
theorem dX0_enter_19 : decode cX0_enter 19 = .ok (.iload_n 3, 1) := by decide +kernel
theorem dX0_enter_20 : decode cX0_enter 20 = .ok (.iconst 4, 1) := by decide +kernel
theorem dX0_enter_21 : decode cX0_enter 21 = .ok (.if_icmp .ne 17, 3) := by decide +kernel
theorem dX0_enter_24 : decode cX0_enter 24 = .ok (.aload_n 0, 1) := by decide +kernel
theorem dX0_enter_25 : decode cX0_enter 25 = .ok (.getfield 18, 3) := by decide +kernel
theorem dX0_enter_28 : decode cX0_enter 28 = .ok (.iload 4, 2) := by decide +kernel
theorem dX0_enter_30 : decode cX0_enter 30 = .ok (.dup2, 1) := by decide +kernel
theorem dX0_enter_31 : decode cX0_enter 31 = .ok (.iaload, 1) := by decide +kernel
theorem dX0_enter_32 : decode cX0_enter 32 = .ok (.iload_n 2, 1) := by decide +kernel
theorem dX0_enter_33 : decode cX0_enter 33 = .ok (.ior, 1) := by decide +kernel
theorem dX0_enter_34 : decode cX0_enter 34 = .ok (.iastore, 1) := by decide +kernel
theorem dX0_enter_35 : decode cX0_enter 35 = .ok (.goto 14, 3) := by decide +kernel
theorem dX0_enter_38 : decode cX0_enter 38 = .ok (.aload_n 0, 1) := by decide +kernel
theorem dX0_enter_39 : decode cX0_enter 39 = .ok (.getfield 27, 3) := by decide +kernel
theorem dX0_enter_42 : decode cX0_enter 42 = .ok (.iload 4, 2) := by decide +kernel
theorem dX0_enter_44 : decode cX0_enter 44 = .ok (.dup2, 1) := by decide +kernel
theorem dX0_enter_45 : decode cX0_enter 45 = .ok (.iaload, 1) := by decide +kernel
theorem dX0_enter_46 : decode cX0_enter 46 = .ok (.iload_n 2, 1) := by decide +kernel
theorem dX0_enter_47 : decode cX0_enter 47 = .ok (.ior, 1) := by decide +kernel
theorem dX0_enter_48 : decode cX0_enter 48 = .ok (.iastore, 1) := by decide +kernel
theorem dX0_enter_49 : decode cX0_enter 49 = .ok (.iload_n 3, 1) := by decide +kernel
theorem dX0_enter_50 : decode cX0_enter 50 = .ok (.iconst 2, 1) := by decide +kernel
theorem dX0_enter_51 : decode cX0_enter 51 = .ok (.if_icmp .ne 51, 3) := by decide +kernel
theorem dX0_enter_54 : decode cX0_enter 54 = .ok (.iconst 0, 1) := by decide +kernel
theorem dX0_enter_55 : decode cX0_enter 55 = .ok (.istore 5, 2) := by decide +kernel
theorem dX0_enter_57 : decode cX0_enter 57 = .ok (.iload 5, 2) := by decide +kernel
theorem dX0_enter_59 : decode cX0_enter 59 = .ok (.bipush 6, 2) := by decide +kernel
theorem dX0_enter_61 : decode cX0_enter 61 = .ok (.if_icmp .ge 41, 3) := by decide +kernel
theorem dX0_enter_64 : decode cX0_enter 64 = .ok (.iload 5, 2) := by decide +kernel
theorem dX0_enter_66 : decode cX0_enter 66 = .ok (.iload 4, 2) := by decide +kernel
theorem dX0_enter_68 : decode cX0_enter 68 = .ok (.if_icmp .ne 17, 3) := by decide +kernel
theorem dX0_enter_71 : decode cX0_enter 71 = .ok (.aload_n 0, 1) := by decide +kernel
theorem dX0_enter_72 : decode cX0_enter 72 = .ok (.getfield 21, 3) := by decide +kernel
theorem dX0_enter_75 : decode cX0_enter 75 = .ok (.iload 5, 2) := by decide +kernel
theorem dX0_enter_77 : decode cX0_enter 77 = .ok (.dup2, 1) := by decide +kernel
theorem dX0_enter_78 : decode cX0_enter 78 = .ok (.iaload, 1) := by decide +kernel
theorem dX0_enter_79 : decode cX0_enter 79 = .ok (.iload_n 2, 1) := by decide +kernel
theorem dX0_enter_80 : decode cX0_enter 80 = .ok (.ior, 1) := by decide +kernel
theorem dX0_enter_81 : decode cX0_enter 81 = .ok (.iastore, 1) := by decide +kernel
theorem dX0_enter_82 : decode cX0_enter 82 = .ok (.goto 14, 3) := by decide +kernel
theorem dX0_enter_85 : decode cX0_enter 85 = .ok (.aload_n 0, 1) := by decide +kernel
theorem dX0_enter_86 : decode cX0_enter 86 = .ok (.getfield 24, 3) := by decide +kernel
theorem dX0_enter_89 : decode cX0_enter 89 = .ok (.iload 5, 2) := by decide +kernel
theorem dX0_enter_91 : decode cX0_enter 91 = .ok (.dup2, 1) := by decide +kernel
theorem dX0_enter_92 : decode cX0_enter 92 = .ok (.iaload, 1) := by decide +kernel
theorem dX0_enter_93 : decode cX0_enter 93 = .ok (.iload_n 2, 1) := by decide +kernel
theorem dX0_enter_94 : decode cX0_enter 94 = .ok (.ior, 1) := by decide +kernel
theorem dX0_enter_95 : decode cX0_enter 95 = .ok (.iastore, 1) := by decide +kernel
theorem dX0_enter_96 : decode cX0_enter 96 = .ok (.iinc 5 1, 3) := by decide +kernel
theorem dX0_enter_99 : decode cX0_enter 99 = .ok (.goto (-42), 3) := by decide +kernel
theorem dX0_enter_102 : decode cX0_enter 102 = .ok (.iconst 0, 1) := by decide +kernel
theorem dX0_enter_103 : decode cX0_enter 103 = .ok (.istore 5, 2) := by decide +kernel
theorem dX0_enter_105 : decode cX0_enter 105 = .ok (.iload 5, 2) := by decide +kernel
theorem dX0_enter_107 : decode cX0_enter 107 = .ok (.sipush 240, 3) := by decide +kernel
theorem dX0_enter_110 : decode cX0_enter 110 = .ok (.if_icmp .ge 30, 3) := by decide +kernel
theorem dX0_enter_113 : decode cX0_enter 113 = .ok (.aload_n 0, 1) := by decide +kernel
theorem dX0_enter_114 : decode cX0_enter 114 = .ok (.iload_n 1, 1) := by decide +kernel
theorem dX0_enter_115 : decode cX0_enter 115 = .ok (.iload 5, 2) := by decide +kernel
theorem dX0_enter_117 : decode cX0_enter 117 = .ok (.invokevirtual 48, 3) := by decide +kernel
theorem dX0_enter_120 : decode cX0_enter 120 = .ok (.ifCond .eq 14, 3) := by decide +kernel
theorem dX0_enter_123 : decode cX0_enter 123 = .ok (.aload_n 0, 1) := by decide +kernel
theorem dX0_enter_124 : decode cX0_enter 124 = .ok (.getfield 15, 3) := by decide +kernel
theorem dX0_enter_127 : decode cX0_enter 127 = .ok (.iload 5, 2) := by decide +kernel
theorem dX0_enter_129 : decode cX0_enter 129 = .ok (.dup2, 1) := by decide +kernel
theorem dX0_enter_130 : decode cX0_enter 130 = .ok (.iaload, 1) := by decide +kernel
theorem dX0_enter_131 : decode cX0_enter 131 = .ok (.iload_n 2, 1) := by decide +kernel
theorem dX0_enter_132 : decode cX0_enter 132 = .ok (.ior, 1) := by decide +kernel
theorem dX0_enter_133 : decode cX0_enter 133 = .ok (.iastore, 1) := by decide +kernel
theorem dX0_enter_134 : decode cX0_enter 134 = .ok (.iinc 5 1, 3) := by decide +kernel
theorem dX0_enter_137 : decode cX0_enter 137 = .ok (.goto (-32), 3) := by decide +kernel
theorem dX0_enter_140 : decode cX0_enter 140 = .ok (.return_, 1) := by decide +kernel
set_option maxRecDepth 20000 in
theorem ggX0_reaches_X0_cell : GoodIn wsX0_reaches wsX0_cell := goodIn_r _ [5, 6, 10, 11, 12, 13, 14, 15, 16] (by decide +kernel) (by decide +kernel)
set_option maxRecDepth 20000 in
theorem gX0_reaches_X0_cell : GoodIn wsX0_reaches (wsV RX0 44 RX0 yX0_cell wsX0_cell) := goodIn_app (goodIn_of _ (by decide +kernel)) ggX0_reaches_X0_cell
set_option maxRecDepth 20000 in
theorem ggX0_reaches_X7_isOff : GoodIn wsX0_reaches wsX7_isOff := goodIn_r _ [9] (by decide +kernel) (by decide +kernel)
set_option maxRecDepth 20000 in
theorem gX0_reaches_X7_isOff_n52 : GoodIn wsX0_reaches (wsX7_isOff) := ggX0_reaches_X7_isOff
theorem dX0_reaches_0 : decode cX0_reaches 0 = .ok (.aload_n 0, 1) := by decide +kernel
theorem dX0_reaches_1 : decode cX0_reaches 1 = .ok (.iload_n 1, 1) := by decide +kernel
theorem dX0_reaches_2 : decode cX0_reaches 2 = .ok (.iconst 3, 1) := by decide +kernel
theorem dX0_reaches_3 : decode cX0_reaches 3 = .ok (.invokevirtual 44, 3) := by decide +kernel
theorem dX0_reaches_6 : decode cX0_reaches 6 = .ok (.istore_n 3, 1) := by decide +kernel
theorem dX0_reaches_7 : decode cX0_reaches 7 = .ok (.aload_n 0, 1) := by decide +kernel
theorem dX0_reaches_8 : decode cX0_reaches 8 = .ok (.iload_n 1, 1) := by decide +kernel
theorem dX0_reaches_9 : decode cX0_reaches 9 = .ok (.iconst 4, 1) := by decide +kernel
theorem dX0_reaches_10 : decode cX0_reaches 10 = .ok (.invokevirtual 44, 3) := by decide +kernel
theorem dX0_reaches_13 : decode cX0_reaches 13 = .ok (.istore 4, 2) := by decide +kernel
theorem dX0_reaches_15 : decode cX0_reaches 15 = .ok (.iload_n 3, 1) := by decide +kernel
theorem dX0_reaches_16 : decode cX0_reaches 16 = .ok (.iconst (-1), 1) := by decide +kernel
theorem dX0_reaches_17 : decode cX0_reaches 17 = .ok (.if_icmp .eq 11, 3) := by decide +kernel
theorem dX0_reaches_20 : decode cX0_reaches 20 = .ok (.iload_n 3, 1) := by decide +kernel
theorem dX0_reaches_21 : decode cX0_reaches 21 = .ok (.iload_n 2, 1) := by decide +kernel
theorem dX0_reaches_22 : decode cX0_reaches 22 = .ok (.bipush 40, 2) := by decide +kernel
theorem dX0_reaches_24 : decode cX0_reaches 24 = .ok (.idiv, 1) := by decide +kernel
theorem dX0_reaches_25 : decode cX0_reaches 25 = .ok (.if_icmp .ne 47, 3) := by decide +kernel
theorem dX0_reaches_28 : decode cX0_reaches 28 = .ok (.iload 4, 2) := by decide +kernel
theorem dX0_reaches_30 : decode cX0_reaches 30 = .ok (.iconst (-1), 1) := by decide +kernel
theorem dX0_reaches_31 : decode cX0_reaches 31 = .ok (.if_icmp .eq 14, 3) := by decide +kernel
theorem dX0_reaches_34 : decode cX0_reaches 34 = .ok (.iload 4, 2) := by decide +kernel
theorem dX0_reaches_36 : decode cX0_reaches 36 = .ok (.iload_n 2, 1) := by decide +kernel
theorem dX0_reaches_37 : decode cX0_reaches 37 = .ok (.bipush 10, 2) := by decide +kernel
theorem dX0_reaches_39 : decode cX0_reaches 39 = .ok (.idiv, 1) := by decide +kernel
theorem dX0_reaches_40 : decode cX0_reaches 40 = .ok (.iconst 4, 1) := by decide +kernel
theorem dX0_reaches_41 : decode cX0_reaches 41 = .ok (.irem, 1) := by decide +kernel
theorem dX0_reaches_42 : decode cX0_reaches 42 = .ok (.if_icmp .ne 30, 3) := by decide +kernel
theorem dX0_reaches_45 : decode cX0_reaches 45 = .ok (.iload_n 2, 1) := by decide +kernel
theorem dX0_reaches_46 : decode cX0_reaches 46 = .ok (.bipush 10, 2) := by decide +kernel
theorem dX0_reaches_48 : decode cX0_reaches 48 = .ok (.irem, 1) := by decide +kernel
theorem dX0_reaches_49 : decode cX0_reaches 49 = .ok (.aload_n 0, 1) := by decide +kernel
theorem dX0_reaches_50 : decode cX0_reaches 50 = .ok (.iload_n 1, 1) := by decide +kernel
theorem dX0_reaches_51 : decode cX0_reaches 51 = .ok (.iconst 5, 1) := by decide +kernel
theorem dX0_reaches_52 : decode cX0_reaches 52 = .ok (.invokevirtual 44, 3) := by decide +kernel
theorem dX0_reaches_55 : decode cX0_reaches 55 = .ok (.aload_n 0, 1) := by decide +kernel
theorem dX0_reaches_56 : decode cX0_reaches 56 = .ok (.iload_n 1, 1) := by decide +kernel
theorem dX0_reaches_57 : decode cX0_reaches 57 = .ok (.bipush 6, 2) := by decide +kernel
theorem dX0_reaches_59 : decode cX0_reaches 59 = .ok (.invokevirtual 44, 3) := by decide +kernel
theorem dX0_reaches_62 : decode cX0_reaches 62 = .ok (.invokestatic 52, 3) := by decide +kernel
theorem dX0_reaches_65 : decode cX0_reaches 65 = .ok (.ifCond .ne 7, 3) := by decide +kernel
theorem dX0_reaches_68 : decode cX0_reaches 68 = .ok (.iconst 1, 1) := by decide +kernel
theorem dX0_reaches_69 : decode cX0_reaches 69 = .ok (.goto 4, 3) := by decide +kernel
theorem dX0_reaches_72 : decode cX0_reaches 72 = .ok (.iconst 0, 1) := by decide +kernel
theorem dX0_reaches_73 : decode cX0_reaches 73 = .ok (.ireturn, 1) := by decide +kernel
set_option maxRecDepth 20000 in
theorem ggX0_strikeOut_X0_closeGap : GoodIn wsX0_strikeOut wsX0_closeGap := goodIn_r _ [15] (by decide +kernel) (by decide +kernel)
set_option maxRecDepth 20000 in
theorem gX0_strikeOut_X0_closeGap : GoodIn wsX0_strikeOut (va_wsS RX0 56 yX0_closeGap wsX0_closeGap) := goodIn_app (goodIn_of _ (by decide +kernel)) ggX0_strikeOut_X0_closeGap
theorem dX0_strikeOut_0 : decode cX0_strikeOut 0 = .ok (.aload_n 0, 1) := by decide +kernel
theorem dX0_strikeOut_1 : decode cX0_strikeOut 1 = .ok (.dup, 1) := by decide +kernel
theorem dX0_strikeOut_2 : decode cX0_strikeOut 2 = .ok (.getfield 30, 3) := by decide +kernel
theorem dX0_strikeOut_5 : decode cX0_strikeOut 5 = .ok (.iconst 1, 1) := by decide +kernel
theorem dX0_strikeOut_6 : decode cX0_strikeOut 6 = .ok (.isub, 1) := by decide +kernel
theorem dX0_strikeOut_7 : decode cX0_strikeOut 7 = .ok (.putfield 30, 3) := by decide +kernel
theorem dX0_strikeOut_10 : decode cX0_strikeOut 10 = .ok (.aload_n 0, 1) := by decide +kernel
theorem dX0_strikeOut_11 : decode cX0_strikeOut 11 = .ok (.getfield 9, 3) := by decide +kernel
theorem dX0_strikeOut_14 : decode cX0_strikeOut 14 = .ok (.iload_n 1, 1) := by decide +kernel
theorem dX0_strikeOut_15 : decode cX0_strikeOut 15 = .ok (.iconst 1, 1) := by decide +kernel
theorem dX0_strikeOut_16 : decode cX0_strikeOut 16 = .ok (.iadd, 1) := by decide +kernel
theorem dX0_strikeOut_17 : decode cX0_strikeOut 17 = .ok (.bipush 7, 2) := by decide +kernel
theorem dX0_strikeOut_19 : decode cX0_strikeOut 19 = .ok (.imul, 1) := by decide +kernel
theorem dX0_strikeOut_20 : decode cX0_strikeOut 20 = .ok (.aload_n 0, 1) := by decide +kernel
theorem dX0_strikeOut_21 : decode cX0_strikeOut 21 = .ok (.getfield 9, 3) := by decide +kernel
theorem dX0_strikeOut_24 : decode cX0_strikeOut 24 = .ok (.iload_n 1, 1) := by decide +kernel
theorem dX0_strikeOut_25 : decode cX0_strikeOut 25 = .ok (.bipush 7, 2) := by decide +kernel
theorem dX0_strikeOut_27 : decode cX0_strikeOut 27 = .ok (.imul, 1) := by decide +kernel
theorem dX0_strikeOut_28 : decode cX0_strikeOut 28 = .ok (.aload_n 0, 1) := by decide +kernel
theorem dX0_strikeOut_29 : decode cX0_strikeOut 29 = .ok (.getfield 30, 3) := by decide +kernel
theorem dX0_strikeOut_32 : decode cX0_strikeOut 32 = .ok (.iload_n 1, 1) := by decide +kernel
theorem dX0_strikeOut_33 : decode cX0_strikeOut 33 = .ok (.isub, 1) := by decide +kernel
theorem dX0_strikeOut_34 : decode cX0_strikeOut 34 = .ok (.bipush 7, 2) := by decide +kernel
theorem dX0_strikeOut_36 : decode cX0_strikeOut 36 = .ok (.imul, 1) := by decide +kernel
theorem dX0_strikeOut_37 : decode cX0_strikeOut 37 = .ok (.invokestatic 34, 3) := by decide +kernel
theorem dX0_strikeOut_40 : decode cX0_strikeOut 40 = .ok (.aload_n 0, 1) := by decide +kernel
theorem dX0_strikeOut_41 : decode cX0_strikeOut 41 = .ok (.getfield 15, 3) := by decide +kernel
theorem dX0_strikeOut_44 : decode cX0_strikeOut 44 = .ok (.iload_n 1, 1) := by decide +kernel
theorem dX0_strikeOut_45 : decode cX0_strikeOut 45 = .ok (.invokestatic 56, 3) := by decide +kernel
theorem dX0_strikeOut_48 : decode cX0_strikeOut 48 = .ok (.aload_n 0, 1) := by decide +kernel
theorem dX0_strikeOut_49 : decode cX0_strikeOut 49 = .ok (.getfield 18, 3) := by decide +kernel
theorem dX0_strikeOut_52 : decode cX0_strikeOut 52 = .ok (.iload_n 1, 1) := by decide +kernel
theorem dX0_strikeOut_53 : decode cX0_strikeOut 53 = .ok (.invokestatic 56, 3) := by decide +kernel
theorem dX0_strikeOut_56 : decode cX0_strikeOut 56 = .ok (.aload_n 0, 1) := by decide +kernel
theorem dX0_strikeOut_57 : decode cX0_strikeOut 57 = .ok (.getfield 21, 3) := by decide +kernel
theorem dX0_strikeOut_60 : decode cX0_strikeOut 60 = .ok (.iload_n 1, 1) := by decide +kernel
theorem dX0_strikeOut_61 : decode cX0_strikeOut 61 = .ok (.invokestatic 56, 3) := by decide +kernel
theorem dX0_strikeOut_64 : decode cX0_strikeOut 64 = .ok (.aload_n 0, 1) := by decide +kernel
theorem dX0_strikeOut_65 : decode cX0_strikeOut 65 = .ok (.getfield 24, 3) := by decide +kernel
theorem dX0_strikeOut_68 : decode cX0_strikeOut 68 = .ok (.iload_n 1, 1) := by decide +kernel
theorem dX0_strikeOut_69 : decode cX0_strikeOut 69 = .ok (.invokestatic 56, 3) := by decide +kernel
theorem dX0_strikeOut_72 : decode cX0_strikeOut 72 = .ok (.aload_n 0, 1) := by decide +kernel
theorem dX0_strikeOut_73 : decode cX0_strikeOut 73 = .ok (.getfield 27, 3) := by decide +kernel
theorem dX0_strikeOut_76 : decode cX0_strikeOut 76 = .ok (.iload_n 1, 1) := by decide +kernel
theorem dX0_strikeOut_77 : decode cX0_strikeOut 77 = .ok (.invokestatic 56, 3) := by decide +kernel
theorem dX0_strikeOut_80 : decode cX0_strikeOut 80 = .ok (.return_, 1) := by decide +kernel
theorem dX0_closeGap_0 : decode cX0_closeGap 0 = .ok (.iconst 1, 1) := by decide +kernel
theorem dX0_closeGap_1 : decode cX0_closeGap 1 = .ok (.iload_n 1, 1) := by decide +kernel
theorem dX0_closeGap_2 : decode cX0_closeGap 2 = .ok (.ishl, 1) := by decide +kernel
theorem dX0_closeGap_3 : decode cX0_closeGap 3 = .ok (.iconst 1, 1) := by decide +kernel
theorem dX0_closeGap_4 : decode cX0_closeGap 4 = .ok (.isub, 1) := by decide +kernel
theorem dX0_closeGap_5 : decode cX0_closeGap 5 = .ok (.istore_n 2, 1) := by decide +kernel
theorem dX0_closeGap_6 : decode cX0_closeGap 6 = .ok (.iconst 0, 1) := by decide +kernel
theorem dX0_closeGap_7 : decode cX0_closeGap 7 = .ok (.istore_n 3, 1) := by decide +kernel
theorem dX0_closeGap_8 : decode cX0_closeGap 8 = .ok (.iload_n 3, 1) := by decide +kernel
theorem dX0_closeGap_9 : decode cX0_closeGap 9 = .ok (.aload_n 0, 1) := by decide +kernel
theorem dX0_closeGap_10 : decode cX0_closeGap 10 = .ok (.arraylength, 1) := by decide +kernel
theorem dX0_closeGap_11 : decode cX0_closeGap 11 = .ok (.if_icmp .ge 27, 3) := by decide +kernel
theorem dX0_closeGap_14 : decode cX0_closeGap 14 = .ok (.aload_n 0, 1) := by decide +kernel
theorem dX0_closeGap_15 : decode cX0_closeGap 15 = .ok (.iload_n 3, 1) := by decide +kernel
theorem dX0_closeGap_16 : decode cX0_closeGap 16 = .ok (.aload_n 0, 1) := by decide +kernel
theorem dX0_closeGap_17 : decode cX0_closeGap 17 = .ok (.iload_n 3, 1) := by decide +kernel
theorem dX0_closeGap_18 : decode cX0_closeGap 18 = .ok (.iaload, 1) := by decide +kernel
theorem dX0_closeGap_19 : decode cX0_closeGap 19 = .ok (.iload_n 2, 1) := by decide +kernel
theorem dX0_closeGap_20 : decode cX0_closeGap 20 = .ok (.iand, 1) := by decide +kernel
theorem dX0_closeGap_21 : decode cX0_closeGap 21 = .ok (.aload_n 0, 1) := by decide +kernel
theorem dX0_closeGap_22 : decode cX0_closeGap 22 = .ok (.iload_n 3, 1) := by decide +kernel
theorem dX0_closeGap_23 : decode cX0_closeGap 23 = .ok (.iaload, 1) := by decide +kernel
theorem dX0_closeGap_24 : decode cX0_closeGap 24 = .ok (.iconst 1, 1) := by decide +kernel
theorem dX0_closeGap_25 : decode cX0_closeGap 25 = .ok (.iushr, 1) := by decide +kernel
theorem dX0_closeGap_26 : decode cX0_closeGap 26 = .ok (.iload_n 2, 1) := by decide +kernel
theorem dX0_closeGap_27 : decode cX0_closeGap 27 = .ok (.iconst (-1), 1) := by decide +kernel
theorem dX0_closeGap_28 : decode cX0_closeGap 28 = .ok (.ixor, 1) := by decide +kernel
theorem dX0_closeGap_29 : decode cX0_closeGap 29 = .ok (.iand, 1) := by decide +kernel
theorem dX0_closeGap_30 : decode cX0_closeGap 30 = .ok (.ior, 1) := by decide +kernel
theorem dX0_closeGap_31 : decode cX0_closeGap 31 = .ok (.iastore, 1) := by decide +kernel
theorem dX0_closeGap_32 : decode cX0_closeGap 32 = .ok (.iinc 3 1, 3) := by decide +kernel
theorem dX0_closeGap_35 : decode cX0_closeGap 35 = .ok (.goto (-27), 3) := by decide +kernel
theorem dX0_closeGap_38 : decode cX0_closeGap 38 = .ok (.return_, 1) := by decide +kernel
theorem dX0_boundsAroundWork_0 : decode cX0_boundsAroundWork 0 = .ok (.aload_n 0, 1) := by decide +kernel
theorem dX0_boundsAroundWork_1 : decode cX0_boundsAroundWork 1 = .ok (.getfield 15, 3) := by decide +kernel
theorem dX0_boundsAroundWork_4 : decode cX0_boundsAroundWork 4 = .ok (.iload_n 1, 1) := by decide +kernel
theorem dX0_boundsAroundWork_5 : decode cX0_boundsAroundWork 5 = .ok (.iaload, 1) := by decide +kernel
theorem dX0_boundsAroundWork_6 : decode cX0_boundsAroundWork 6 = .ok (.ireturn, 1) := by decide +kernel
set_option maxRecDepth 20000 in
theorem ggX0_deciding_J6_numberOfTrailingZeros_0f7a4 : GoodIn wsX0_deciding wsJ6_numberOfTrailingZeros_0f7a4 := goodIn_r _ [9, 10] (by decide +kernel) (by decide +kernel)
set_option maxRecDepth 20000 in
theorem gX0_deciding_J6_numberOfTrailingZeros_0f7a4 : GoodIn wsX0_deciding (va_wsS RX0 60 yJ6_numberOfTrailingZeros_0f7a4 wsJ6_numberOfTrailingZeros_0f7a4) := goodIn_app (goodIn_of _ (by decide +kernel)) ggX0_deciding_J6_numberOfTrailingZeros_0f7a4
set_option maxRecDepth 20000 in
theorem ggX0_deciding_J6_numberOfLeadingZeros_0f7a4 : GoodIn wsX0_deciding wsJ6_numberOfLeadingZeros_0f7a4 := goodIn_r _ [13, 10] (by decide +kernel) (by decide +kernel)
set_option maxRecDepth 20000 in
theorem gX0_deciding_J6_numberOfLeadingZeros_0f7a4 : GoodIn wsX0_deciding (va_wsS RX0 66 yJ6_numberOfLeadingZeros_0f7a4 wsJ6_numberOfLeadingZeros_0f7a4) := goodIn_app (goodIn_of _ (by decide +kernel)) ggX0_deciding_J6_numberOfLeadingZeros_0f7a4
theorem dX0_deciding_0 : decode cX0_deciding 0 = .ok (.aload_n 0, 1) := by decide +kernel
theorem dX0_deciding_1 : decode cX0_deciding 1 = .ok (.getfield 15, 3) := by decide +kernel
theorem dX0_deciding_4 : decode cX0_deciding 4 = .ok (.iload_n 2, 1) := by decide +kernel
theorem dX0_deciding_5 : decode cX0_deciding 5 = .ok (.iaload, 1) := by decide +kernel
theorem dX0_deciding_6 : decode cX0_deciding 6 = .ok (.iload_n 3, 1) := by decide +kernel
theorem dX0_deciding_7 : decode cX0_deciding 7 = .ok (.iand, 1) := by decide +kernel
theorem dX0_deciding_8 : decode cX0_deciding 8 = .ok (.istore 4, 2) := by decide +kernel
theorem dX0_deciding_10 : decode cX0_deciding 10 = .ok (.iload 4, 2) := by decide +kernel
theorem dX0_deciding_12 : decode cX0_deciding 12 = .ok (.aload_n 0, 1) := by decide +kernel
theorem dX0_deciding_13 : decode cX0_deciding 13 = .ok (.getfield 18, 3) := by decide +kernel
theorem dX0_deciding_16 : decode cX0_deciding 16 = .ok (.iload_n 1, 1) := by decide +kernel
theorem dX0_deciding_17 : decode cX0_deciding 17 = .ok (.iaload, 1) := by decide +kernel
theorem dX0_deciding_18 : decode cX0_deciding 18 = .ok (.iand, 1) := by decide +kernel
theorem dX0_deciding_19 : decode cX0_deciding 19 = .ok (.istore 5, 2) := by decide +kernel
theorem dX0_deciding_21 : decode cX0_deciding 21 = .ok (.iload 5, 2) := by decide +kernel
theorem dX0_deciding_23 : decode cX0_deciding 23 = .ok (.ifCond .eq 9, 3) := by decide +kernel
theorem dX0_deciding_26 : decode cX0_deciding 26 = .ok (.iload 5, 2) := by decide +kernel
theorem dX0_deciding_28 : decode cX0_deciding 28 = .ok (.invokestatic 60, 3) := by decide +kernel
theorem dX0_deciding_31 : decode cX0_deciding 31 = .ok (.ireturn, 1) := by decide +kernel
theorem dX0_deciding_32 : decode cX0_deciding 32 = .ok (.iload 4, 2) := by decide +kernel
theorem dX0_deciding_34 : decode cX0_deciding 34 = .ok (.aload_n 0, 1) := by decide +kernel
theorem dX0_deciding_35 : decode cX0_deciding 35 = .ok (.getfield 24, 3) := by decide +kernel
theorem dX0_deciding_38 : decode cX0_deciding 38 = .ok (.iload_n 1, 1) := by decide +kernel
theorem dX0_deciding_39 : decode cX0_deciding 39 = .ok (.iaload, 1) := by decide +kernel
theorem dX0_deciding_40 : decode cX0_deciding 40 = .ok (.iand, 1) := by decide +kernel
theorem dX0_deciding_41 : decode cX0_deciding 41 = .ok (.istore 6, 2) := by decide +kernel
theorem dX0_deciding_43 : decode cX0_deciding 43 = .ok (.iload 6, 2) := by decide +kernel
theorem dX0_deciding_45 : decode cX0_deciding 45 = .ok (.ifCond .eq 21, 3) := by decide +kernel
theorem dX0_deciding_48 : decode cX0_deciding 48 = .ok (.iload 4, 2) := by decide +kernel
theorem dX0_deciding_50 : decode cX0_deciding 50 = .ok (.aload_n 0, 1) := by decide +kernel
theorem dX0_deciding_51 : decode cX0_deciding 51 = .ok (.getfield 21, 3) := by decide +kernel
theorem dX0_deciding_54 : decode cX0_deciding 54 = .ok (.iload_n 1, 1) := by decide +kernel
theorem dX0_deciding_55 : decode cX0_deciding 55 = .ok (.iaload, 1) := by decide +kernel
theorem dX0_deciding_56 : decode cX0_deciding 56 = .ok (.iand, 1) := by decide +kernel
theorem dX0_deciding_57 : decode cX0_deciding 57 = .ok (.ifCond .ne 9, 3) := by decide +kernel
theorem dX0_deciding_60 : decode cX0_deciding 60 = .ok (.iload 6, 2) := by decide +kernel
theorem dX0_deciding_62 : decode cX0_deciding 62 = .ok (.invokestatic 60, 3) := by decide +kernel
theorem dX0_deciding_65 : decode cX0_deciding 65 = .ok (.ireturn, 1) := by decide +kernel
theorem dX0_deciding_66 : decode cX0_deciding 66 = .ok (.iload 4, 2) := by decide +kernel
theorem dX0_deciding_68 : decode cX0_deciding 68 = .ok (.aload_n 0, 1) := by decide +kernel
theorem dX0_deciding_69 : decode cX0_deciding 69 = .ok (.getfield 27, 3) := by decide +kernel
theorem dX0_deciding_72 : decode cX0_deciding 72 = .ok (.iload_n 1, 1) := by decide +kernel
theorem dX0_deciding_73 : decode cX0_deciding 73 = .ok (.iaload, 1) := by decide +kernel
theorem dX0_deciding_74 : decode cX0_deciding 74 = .ok (.iand, 1) := by decide +kernel
theorem dX0_deciding_75 : decode cX0_deciding 75 = .ok (.istore 7, 2) := by decide +kernel
theorem dX0_deciding_77 : decode cX0_deciding 77 = .ok (.iload 7, 2) := by decide +kernel
theorem dX0_deciding_79 : decode cX0_deciding 79 = .ok (.ifCond .ne 7, 3) := by decide +kernel
theorem dX0_deciding_82 : decode cX0_deciding 82 = .ok (.iconst (-1), 1) := by decide +kernel
theorem dX0_deciding_83 : decode cX0_deciding 83 = .ok (.goto 11, 3) := by decide +kernel
theorem dX0_deciding_86 : decode cX0_deciding 86 = .ok (.bipush 31, 2) := by decide +kernel
theorem dX0_deciding_88 : decode cX0_deciding 88 = .ok (.iload 7, 2) := by decide +kernel
theorem dX0_deciding_90 : decode cX0_deciding 90 = .ok (.invokestatic 66, 3) := by decide +kernel
theorem dX0_deciding_93 : decode cX0_deciding 93 = .ok (.isub, 1) := by decide +kernel
theorem dX0_deciding_94 : decode cX0_deciding 94 = .ok (.ireturn, 1) := by decide +kernel
set_option maxRecDepth 20000 in
theorem ggX0_leave_X0_deciding : GoodIn wsX0_leave wsX0_deciding := goodIn_r _ [5, 6, 7, 8, 9, 10, 11, 12, 13, 14, 15, 16, 17, 18, 24, 25, 26, 27, 28, 29, 30] (by decide +kernel) (by decide +kernel)
set_option maxRecDepth 20000 in
theorem gX0_leave_X0_deciding : GoodIn wsX0_leave (wsV RX0 69 RX0 yX0_deciding wsX0_deciding) := goodIn_app (goodIn_of _ (by decide +kernel)) ggX0_leave_X0_deciding
set_option maxRecDepth 20000 in
theorem ggX0_leave_X0_cell : GoodIn wsX0_leave wsX0_cell := goodIn_r _ [22, 23, 24, 25, 26, 27, 28, 29, 30] (by decide +kernel) (by decide +kernel)
set_option maxRecDepth 20000 in
theorem gX0_leave_X0_cell : GoodIn wsX0_leave (wsV RX0 44 RX0 yX0_cell wsX0_cell) := goodIn_app (goodIn_of _ (by decide +kernel)) ggX0_leave_X0_cell
theorem dX0_leave_0 : decode cX0_leave 0 = .ok (.aload_n 0, 1) := by decide +kernel
theorem dX0_leave_1 : decode cX0_leave 1 = .ok (.iload_n 1, 1) := by decide +kernel
theorem dX0_leave_2 : decode cX0_leave 2 = .ok (.iload_n 2, 1) := by decide +kernel
theorem dX0_leave_3 : decode cX0_leave 3 = .ok (.iload_n 3, 1) := by decide +kernel
theorem dX0_leave_4 : decode cX0_leave 4 = .ok (.invokevirtual 69, 3) := by decide +kernel
theorem dX0_leave_7 : decode cX0_leave 7 = .ok (.istore 4, 2) := by decide +kernel
theorem dX0_leave_9 : decode cX0_leave 9 = .ok (.iload 4, 2) := by decide +kernel
theorem dX0_leave_11 : decode cX0_leave 11 = .ok (.iconst (-1), 1) := by decide +kernel
theorem dX0_leave_12 : decode cX0_leave 12 = .ok (.if_icmp .eq 14, 3) := by decide +kernel
theorem dX0_leave_15 : decode cX0_leave 15 = .ok (.aload_n 0, 1) := by decide +kernel
theorem dX0_leave_16 : decode cX0_leave 16 = .ok (.iload 4, 2) := by decide +kernel
theorem dX0_leave_18 : decode cX0_leave 18 = .ok (.iconst 1, 1) := by decide +kernel
theorem dX0_leave_19 : decode cX0_leave 19 = .ok (.invokevirtual 44, 3) := by decide +kernel
theorem dX0_leave_22 : decode cX0_leave 22 = .ok (.iload_n 1, 1) := by decide +kernel
theorem dX0_leave_23 : decode cX0_leave 23 = .ok (.if_icmp .eq 5, 3) := by decide +kernel
theorem dX0_leave_26 : decode cX0_leave 26 = .ok (.iconst 0, 1) := by decide +kernel
theorem dX0_leave_27 : decode cX0_leave 27 = .ok (.ireturn, 1) := by decide +kernel
theorem dX0_leave_28 : decode cX0_leave 28 = .ok (.aload_n 0, 1) := by decide +kernel
theorem dX0_leave_29 : decode cX0_leave 29 = .ok (.iload 4, 2) := by decide +kernel
theorem dX0_leave_31 : decode cX0_leave 31 = .ok (.iconst 0, 1) := by decide +kernel
theorem dX0_leave_32 : decode cX0_leave 32 = .ok (.invokevirtual 44, 3) := by decide +kernel
theorem dX0_leave_35 : decode cX0_leave 35 = .ok (.lookupswitch 37 #[(1, 25), (3, 27)], 25) := by decide +kernel
theorem dX0_leave_60 : decode cX0_leave 60 = .ok (.iconst 0, 1) := by decide +kernel
theorem dX0_leave_61 : decode cX0_leave 61 = .ok (.ireturn, 1) := by decide +kernel
theorem dX0_leave_62 : decode cX0_leave 62 = .ok (.iconst 2, 1) := by decide +kernel
theorem dX0_leave_63 : decode cX0_leave 63 = .ok (.aload_n 0, 1) := by decide +kernel
theorem dX0_leave_64 : decode cX0_leave 64 = .ok (.iload 4, 2) := by decide +kernel
theorem dX0_leave_66 : decode cX0_leave 66 = .ok (.iconst 2, 1) := by decide +kernel
theorem dX0_leave_67 : decode cX0_leave 67 = .ok (.invokevirtual 44, 3) := by decide +kernel
theorem dX0_leave_70 : decode cX0_leave 70 = .ok (.iadd, 1) := by decide +kernel
theorem dX0_leave_71 : decode cX0_leave 71 = .ok (.ireturn, 1) := by decide +kernel
theorem dX0_leave_72 : decode cX0_leave 72 = .ok (.iconst 1, 1) := by decide +kernel
theorem dX0_leave_73 : decode cX0_leave 73 = .ok (.ireturn, 1) := by decide +kernel
set_option maxRecDepth 20000 in
theorem ggX0_handsFor_X0_leave : GoodIn wsX0_handsFor wsX0_leave := goodIn_r _ [5, 6, 7, 8, 4, 9, 10, 11, 12, 13, 14, 15, 16, 17, 18, 19, 20, 21, 22, 23, 24, 25, 26, 27, 28, 29, 30, 31, 32, 33, 34] (by decide +kernel) (by decide +kernel)
set_option maxRecDepth 20000 in
theorem gX0_handsFor_X0_leave : GoodIn wsX0_handsFor (wsV RX0 73 RX0 yX0_leave wsX0_leave) := goodIn_app (goodIn_of _ (by decide +kernel)) ggX0_handsFor_X0_leave
theorem dX0_handsFor_0 : decode cX0_handsFor 0 = .ok (.aload_n 0, 1) := by decide +kernel
theorem dX0_handsFor_1 : decode cX0_handsFor 1 = .ok (.iload_n 1, 1) := by decide +kernel
theorem dX0_handsFor_2 : decode cX0_handsFor 2 = .ok (.iload_n 2, 1) := by decide +kernel
theorem dX0_handsFor_3 : decode cX0_handsFor 3 = .ok (.iconst (-1), 1) := by decide +kernel
theorem dX0_handsFor_4 : decode cX0_handsFor 4 = .ok (.invokevirtual 73, 3) := by decide +kernel
theorem dX0_handsFor_7 : decode cX0_handsFor 7 = .ok (.istore_n 3, 1) := by decide +kernel
theorem dX0_handsFor_8 : decode cX0_handsFor 8 = .ok (.iload_n 3, 1) := by decide +kernel
theorem dX0_handsFor_9 : decode cX0_handsFor 9 = .ok (.ifCond .ne 5, 3) := by decide +kernel
theorem dX0_handsFor_12 : decode cX0_handsFor 12 = .ok (.iconst 0, 1) := by decide +kernel
theorem dX0_handsFor_13 : decode cX0_handsFor 13 = .ok (.ireturn, 1) := by decide +kernel
theorem dX0_handsFor_14 : decode cX0_handsFor 14 = .ok (.iload_n 3, 1) := by decide +kernel
theorem dX0_handsFor_15 : decode cX0_handsFor 15 = .ok (.iconst 1, 1) := by decide +kernel
theorem dX0_handsFor_16 : decode cX0_handsFor 16 = .ok (.if_icmp .ne 9, 3) := by decide +kernel
theorem dX0_handsFor_19 : decode cX0_handsFor 19 = .ok (.iconst 1, 1) := by decide +kernel
theorem dX0_handsFor_20 : decode cX0_handsFor 20 = .ok (.iload_n 1, 1) := by decide +kernel
theorem dX0_handsFor_21 : decode cX0_handsFor 21 = .ok (.ishl, 1) := by decide +kernel
theorem dX0_handsFor_22 : decode cX0_handsFor 22 = .ok (.goto 12, 3) := by decide +kernel
theorem dX0_handsFor_25 : decode cX0_handsFor 25 = .ok (.iconst 1, 1) := by decide +kernel
theorem dX0_handsFor_26 : decode cX0_handsFor 26 = .ok (.iload_n 1, 1) := by decide +kernel
theorem dX0_handsFor_27 : decode cX0_handsFor 27 = .ok (.ishl, 1) := by decide +kernel
theorem dX0_handsFor_28 : decode cX0_handsFor 28 = .ok (.iconst 1, 1) := by decide +kernel
theorem dX0_handsFor_29 : decode cX0_handsFor 29 = .ok (.iload_n 3, 1) := by decide +kernel
theorem dX0_handsFor_30 : decode cX0_handsFor 30 = .ok (.iconst 2, 1) := by decide +kernel
theorem dX0_handsFor_31 : decode cX0_handsFor 31 = .ok (.isub, 1) := by decide +kernel
theorem dX0_handsFor_32 : decode cX0_handsFor 32 = .ok (.ishl, 1) := by decide +kernel
theorem dX0_handsFor_33 : decode cX0_handsFor 33 = .ok (.ior, 1) := by decide +kernel
theorem dX0_handsFor_34 : decode cX0_handsFor 34 = .ok (.ireturn, 1) := by decide +kernel
set_option maxRecDepth 20000 in
theorem ggX0_guildsThatMay_X0_leave : GoodIn wsX0_guildsThatMay wsX0_leave := goodIn_r _ [5, 6, 7, 8, 4, 9, 10, 11, 12, 13, 14, 15, 16, 17, 18, 19, 20, 21, 22, 23, 24, 25, 26, 27, 28, 29, 30, 31, 32, 33, 34] (by decide +kernel) (by decide +kernel)
set_option maxRecDepth 20000 in
theorem gX0_guildsThatMay_X0_leave : GoodIn wsX0_guildsThatMay (wsV RX0 73 RX0 yX0_leave wsX0_leave) := goodIn_app (goodIn_of _ (by decide +kernel)) ggX0_guildsThatMay_X0_leave
theorem dX0_guildsThatMay_0 : decode cX0_guildsThatMay 0 = .ok (.iconst 0, 1) := by decide +kernel
theorem dX0_guildsThatMay_1 : decode cX0_guildsThatMay 1 = .ok (.istore_n 2, 1) := by decide +kernel
theorem dX0_guildsThatMay_2 : decode cX0_guildsThatMay 2 = .ok (.iconst 0, 1) := by decide +kernel
theorem dX0_guildsThatMay_3 : decode cX0_guildsThatMay 3 = .ok (.istore_n 3, 1) := by decide +kernel
theorem dX0_guildsThatMay_4 : decode cX0_guildsThatMay 4 = .ok (.iload_n 3, 1) := by decide +kernel
theorem dX0_guildsThatMay_5 : decode cX0_guildsThatMay 5 = .ok (.bipush 6, 2) := by decide +kernel
theorem dX0_guildsThatMay_7 : decode cX0_guildsThatMay 7 = .ok (.if_icmp .ge 25, 3) := by decide +kernel
theorem dX0_guildsThatMay_10 : decode cX0_guildsThatMay 10 = .ok (.aload_n 0, 1) := by decide +kernel
theorem dX0_guildsThatMay_11 : decode cX0_guildsThatMay 11 = .ok (.iload_n 3, 1) := by decide +kernel
theorem dX0_guildsThatMay_12 : decode cX0_guildsThatMay 12 = .ok (.iload_n 1, 1) := by decide +kernel
theorem dX0_guildsThatMay_13 : decode cX0_guildsThatMay 13 = .ok (.iconst (-1), 1) := by decide +kernel
theorem dX0_guildsThatMay_14 : decode cX0_guildsThatMay 14 = .ok (.invokevirtual 73, 3) := by decide +kernel
theorem dX0_guildsThatMay_17 : decode cX0_guildsThatMay 17 = .ok (.ifCond .eq 9, 3) := by decide +kernel
theorem dX0_guildsThatMay_20 : decode cX0_guildsThatMay 20 = .ok (.iload_n 2, 1) := by decide +kernel
theorem dX0_guildsThatMay_21 : decode cX0_guildsThatMay 21 = .ok (.iconst 1, 1) := by decide +kernel
theorem dX0_guildsThatMay_22 : decode cX0_guildsThatMay 22 = .ok (.iload_n 3, 1) := by decide +kernel
theorem dX0_guildsThatMay_23 : decode cX0_guildsThatMay 23 = .ok (.ishl, 1) := by decide +kernel
theorem dX0_guildsThatMay_24 : decode cX0_guildsThatMay 24 = .ok (.ior, 1) := by decide +kernel
theorem dX0_guildsThatMay_25 : decode cX0_guildsThatMay 25 = .ok (.istore_n 2, 1) := by decide +kernel
theorem dX0_guildsThatMay_26 : decode cX0_guildsThatMay 26 = .ok (.iinc 3 1, 3) := by decide +kernel
theorem dX0_guildsThatMay_29 : decode cX0_guildsThatMay 29 = .ok (.goto (-25), 3) := by decide +kernel
theorem dX0_guildsThatMay_32 : decode cX0_guildsThatMay 32 = .ok (.iload_n 2, 1) := by decide +kernel
theorem dX0_guildsThatMay_33 : decode cX0_guildsThatMay 33 = .ok (.ireturn, 1) := by decide +kernel
set_option maxRecDepth 20000 in
theorem ggX0_isOfKind_X0_guildsThatMay : GoodIn wsX0_isOfKind wsX0_guildsThatMay := goodIn_r _ [5, 6, 7, 8, 4, 9, 10, 11, 12, 13, 14, 15, 16, 17, 18, 19, 20, 21, 22, 23, 24, 25, 26, 27, 28, 29, 30, 31, 42, 43, 44, 45, 46, 47, 48] (by decide +kernel) (by decide +kernel)
set_option maxRecDepth 20000 in
theorem gX0_isOfKind_X0_guildsThatMay : GoodIn wsX0_isOfKind (wsV RX0 76 RX0 yX0_guildsThatMay wsX0_guildsThatMay) := goodIn_app (goodIn_of _ (by decide +kernel)) ggX0_isOfKind_X0_guildsThatMay
set_option maxRecDepth 20000 in
theorem ggX0_isOfKind_J6_bitCount_0f7a4 : GoodIn wsX0_isOfKind wsJ6_bitCount_0f7a4 := goodIn_r _ [34, 35, 36, 37] (by decide +kernel) (by decide +kernel)
set_option maxRecDepth 20000 in
theorem gX0_isOfKind_J6_bitCount_0f7a4 : GoodIn wsX0_isOfKind (va_wsS RX0 79 yJ6_bitCount_0f7a4 wsJ6_bitCount_0f7a4) := goodIn_app (goodIn_of _ (by decide +kernel)) ggX0_isOfKind_J6_bitCount_0f7a4
set_option maxRecDepth 20000 in
theorem ggX0_isOfKind_X0_isClaimed : GoodIn wsX0_isOfKind wsX0_isClaimed := goodIn_r _ [41, 14, 17, 42, 43, 44, 45, 46, 47, 48] (by decide +kernel) (by decide +kernel)
set_option maxRecDepth 20000 in
theorem gX0_isOfKind_X0_isClaimed : GoodIn wsX0_isOfKind (wsV RX0 82 RX0 yX0_isClaimed wsX0_isClaimed) := goodIn_app (goodIn_of _ (by decide +kernel)) ggX0_isOfKind_X0_isClaimed
theorem dX0_isOfKind_0 : decode cX0_isOfKind 0 = .ok (.iload_n 2, 1) := by decide +kernel
theorem dX0_isOfKind_1 : decode cX0_isOfKind 1 = .ok (.lookupswitch 59 #[(0, 27), (1, 41)], 27) := by decide +kernel
theorem dX0_isOfKind_28 : decode cX0_isOfKind 28 = .ok (.aload_n 0, 1) := by decide +kernel
theorem dX0_isOfKind_29 : decode cX0_isOfKind 29 = .ok (.iload_n 1, 1) := by decide +kernel
theorem dX0_isOfKind_30 : decode cX0_isOfKind 30 = .ok (.invokevirtual 76, 3) := by decide +kernel
theorem dX0_isOfKind_33 : decode cX0_isOfKind 33 = .ok (.ifCond .ne 7, 3) := by decide +kernel
theorem dX0_isOfKind_36 : decode cX0_isOfKind 36 = .ok (.iconst 1, 1) := by decide +kernel
theorem dX0_isOfKind_37 : decode cX0_isOfKind 37 = .ok (.goto 4, 3) := by decide +kernel
theorem dX0_isOfKind_40 : decode cX0_isOfKind 40 = .ok (.iconst 0, 1) := by decide +kernel
theorem dX0_isOfKind_41 : decode cX0_isOfKind 41 = .ok (.ireturn, 1) := by decide +kernel
theorem dX0_isOfKind_42 : decode cX0_isOfKind 42 = .ok (.aload_n 0, 1) := by decide +kernel
theorem dX0_isOfKind_43 : decode cX0_isOfKind 43 = .ok (.iload_n 1, 1) := by decide +kernel
theorem dX0_isOfKind_44 : decode cX0_isOfKind 44 = .ok (.invokevirtual 76, 3) := by decide +kernel
theorem dX0_isOfKind_47 : decode cX0_isOfKind 47 = .ok (.invokestatic 79, 3) := by decide +kernel
theorem dX0_isOfKind_50 : decode cX0_isOfKind 50 = .ok (.iconst 2, 1) := by decide +kernel
theorem dX0_isOfKind_51 : decode cX0_isOfKind 51 = .ok (.if_icmp .lt 7, 3) := by decide +kernel
theorem dX0_isOfKind_54 : decode cX0_isOfKind 54 = .ok (.iconst 1, 1) := by decide +kernel
theorem dX0_isOfKind_55 : decode cX0_isOfKind 55 = .ok (.goto 4, 3) := by decide +kernel
theorem dX0_isOfKind_58 : decode cX0_isOfKind 58 = .ok (.iconst 0, 1) := by decide +kernel
theorem dX0_isOfKind_59 : decode cX0_isOfKind 59 = .ok (.ireturn, 1) := by decide +kernel
theorem dX0_isOfKind_60 : decode cX0_isOfKind 60 = .ok (.aload_n 0, 1) := by decide +kernel
theorem dX0_isOfKind_61 : decode cX0_isOfKind 61 = .ok (.iload_n 1, 1) := by decide +kernel
theorem dX0_isOfKind_62 : decode cX0_isOfKind 62 = .ok (.invokevirtual 82, 3) := by decide +kernel
theorem dX0_isOfKind_65 : decode cX0_isOfKind 65 = .ok (.ireturn, 1) := by decide +kernel
theorem dX0_isClaimed_0 : decode cX0_isClaimed 0 = .ok (.iconst 0, 1) := by decide +kernel
theorem dX0_isClaimed_1 : decode cX0_isClaimed 1 = .ok (.istore_n 2, 1) := by decide +kernel
theorem dX0_isClaimed_2 : decode cX0_isClaimed 2 = .ok (.iconst 0, 1) := by decide +kernel
theorem dX0_isClaimed_3 : decode cX0_isClaimed 3 = .ok (.istore_n 3, 1) := by decide +kernel
theorem dX0_isClaimed_4 : decode cX0_isClaimed 4 = .ok (.iload_n 3, 1) := by decide +kernel
theorem dX0_isClaimed_5 : decode cX0_isClaimed 5 = .ok (.bipush 6, 2) := by decide +kernel
theorem dX0_isClaimed_7 : decode cX0_isClaimed 7 = .ok (.if_icmp .ge 28, 3) := by decide +kernel
theorem dX0_isClaimed_10 : decode cX0_isClaimed 10 = .ok (.aload_n 0, 1) := by decide +kernel
theorem dX0_isClaimed_11 : decode cX0_isClaimed 11 = .ok (.getfield 15, 3) := by decide +kernel
theorem dX0_isClaimed_14 : decode cX0_isClaimed 14 = .ok (.iload_n 1, 1) := by decide +kernel
theorem dX0_isClaimed_15 : decode cX0_isClaimed 15 = .ok (.iaload, 1) := by decide +kernel
theorem dX0_isClaimed_16 : decode cX0_isClaimed 16 = .ok (.aload_n 0, 1) := by decide +kernel
theorem dX0_isClaimed_17 : decode cX0_isClaimed 17 = .ok (.getfield 21, 3) := by decide +kernel
theorem dX0_isClaimed_20 : decode cX0_isClaimed 20 = .ok (.iload_n 3, 1) := by decide +kernel
theorem dX0_isClaimed_21 : decode cX0_isClaimed 21 = .ok (.iaload, 1) := by decide +kernel
theorem dX0_isClaimed_22 : decode cX0_isClaimed 22 = .ok (.iand, 1) := by decide +kernel
theorem dX0_isClaimed_23 : decode cX0_isClaimed 23 = .ok (.ifCond .eq 6, 3) := by decide +kernel
theorem dX0_isClaimed_26 : decode cX0_isClaimed 26 = .ok (.iinc 2 1, 3) := by decide +kernel
theorem dX0_isClaimed_29 : decode cX0_isClaimed 29 = .ok (.iinc 3 1, 3) := by decide +kernel
theorem dX0_isClaimed_32 : decode cX0_isClaimed 32 = .ok (.goto (-28), 3) := by decide +kernel
theorem dX0_isClaimed_35 : decode cX0_isClaimed 35 = .ok (.iload_n 2, 1) := by decide +kernel
theorem dX0_isClaimed_36 : decode cX0_isClaimed 36 = .ok (.iconst 2, 1) := by decide +kernel
theorem dX0_isClaimed_37 : decode cX0_isClaimed 37 = .ok (.if_icmp .lt 7, 3) := by decide +kernel
theorem dX0_isClaimed_40 : decode cX0_isClaimed 40 = .ok (.iconst 1, 1) := by decide +kernel
theorem dX0_isClaimed_41 : decode cX0_isClaimed 41 = .ok (.goto 4, 3) := by decide +kernel
theorem dX0_isClaimed_44 : decode cX0_isClaimed 44 = .ok (.iconst 0, 1) := by decide +kernel
theorem dX0_isClaimed_45 : decode cX0_isClaimed 45 = .ok (.ireturn, 1) := by decide +kernel
set_option maxRecDepth 20000 in
theorem ggX0_countLost_X0_leave : GoodIn wsX0_countLost wsX0_leave := goodIn_r _ [5, 6, 7, 8, 4, 9, 10, 11, 12, 13, 14, 15, 16, 17, 18, 19, 20, 21, 22, 23, 24, 25, 26, 27, 28, 29, 30, 31, 32, 33, 34] (by decide +kernel) (by decide +kernel)
set_option maxRecDepth 20000 in
theorem gX0_countLost_X0_leave : GoodIn wsX0_countLost (wsV RX0 73 RX0 yX0_leave wsX0_leave) := goodIn_app (goodIn_of _ (by decide +kernel)) ggX0_countLost_X0_leave
theorem dX0_countLost_0 : decode cX0_countLost 0 = .ok (.iconst 0, 1) := by decide +kernel
theorem dX0_countLost_1 : decode cX0_countLost 1 = .ok (.istore 4, 2) := by decide +kernel
theorem dX0_countLost_3 : decode cX0_countLost 3 = .ok (.iconst 0, 1) := by decide +kernel
theorem dX0_countLost_4 : decode cX0_countLost 4 = .ok (.istore 5, 2) := by decide +kernel
theorem dX0_countLost_6 : decode cX0_countLost 6 = .ok (.iload 5, 2) := by decide +kernel
theorem dX0_countLost_8 : decode cX0_countLost 8 = .ok (.sipush 240, 3) := by decide +kernel
theorem dX0_countLost_11 : decode cX0_countLost 11 = .ok (.if_icmp .ge 34, 3) := by decide +kernel
theorem dX0_countLost_14 : decode cX0_countLost 14 = .ok (.aload_n 0, 1) := by decide +kernel
theorem dX0_countLost_15 : decode cX0_countLost 15 = .ok (.iload_n 1, 1) := by decide +kernel
theorem dX0_countLost_16 : decode cX0_countLost 16 = .ok (.iload 5, 2) := by decide +kernel
theorem dX0_countLost_18 : decode cX0_countLost 18 = .ok (.iload_n 2, 1) := by decide +kernel
theorem dX0_countLost_19 : decode cX0_countLost 19 = .ok (.invokevirtual 73, 3) := by decide +kernel
theorem dX0_countLost_22 : decode cX0_countLost 22 = .ok (.ifCond .eq 17, 3) := by decide +kernel
theorem dX0_countLost_25 : decode cX0_countLost 25 = .ok (.aload_n 0, 1) := by decide +kernel
theorem dX0_countLost_26 : decode cX0_countLost 26 = .ok (.iload_n 1, 1) := by decide +kernel
theorem dX0_countLost_27 : decode cX0_countLost 27 = .ok (.iload 5, 2) := by decide +kernel
theorem dX0_countLost_29 : decode cX0_countLost 29 = .ok (.iload_n 3, 1) := by decide +kernel
theorem dX0_countLost_30 : decode cX0_countLost 30 = .ok (.invokevirtual 73, 3) := by decide +kernel
theorem dX0_countLost_33 : decode cX0_countLost 33 = .ok (.ifCond .ne 6, 3) := by decide +kernel
theorem dX0_countLost_36 : decode cX0_countLost 36 = .ok (.iinc 4 1, 3) := by decide +kernel
theorem dX0_countLost_39 : decode cX0_countLost 39 = .ok (.iinc 5 1, 3) := by decide +kernel
theorem dX0_countLost_42 : decode cX0_countLost 42 = .ok (.goto (-36), 3) := by decide +kernel
theorem dX0_countLost_45 : decode cX0_countLost 45 = .ok (.iload 4, 2) := by decide +kernel
theorem dX0_countLost_47 : decode cX0_countLost 47 = .ok (.ireturn, 1) := by decide +kernel
set_option maxRecDepth 20000 in
theorem ggX0_isIdle_X0_isChanged : GoodIn wsX0_isIdle wsX0_isChanged := goodIn_r _ [6, 7, 8, 9, 5, 10, 11, 12, 13, 14, 1, 15, 16, 17, 18, 19, 20, 21, 22, 23, 24, 25, 26, 27, 28, 29, 30, 31, 32, 33, 34, 35, 36, 37, 38] (by decide +kernel) (by decide +kernel)
set_option maxRecDepth 20000 in
theorem gX0_isIdle_X0_isChanged : GoodIn wsX0_isIdle (wsV RX0 86 RX0 yX0_isChanged wsX0_isChanged) := goodIn_app (goodIn_of _ (by decide +kernel)) ggX0_isIdle_X0_isChanged
theorem dX0_isIdle_0 : decode cX0_isIdle 0 = .ok (.iconst 1, 1) := by decide +kernel
theorem dX0_isIdle_1 : decode cX0_isIdle 1 = .ok (.iload_n 1, 1) := by decide +kernel
theorem dX0_isIdle_2 : decode cX0_isIdle 2 = .ok (.ishl, 1) := by decide +kernel
theorem dX0_isIdle_3 : decode cX0_isIdle 3 = .ok (.iconst (-1), 1) := by decide +kernel
theorem dX0_isIdle_4 : decode cX0_isIdle 4 = .ok (.ixor, 1) := by decide +kernel
theorem dX0_isIdle_5 : decode cX0_isIdle 5 = .ok (.istore_n 2, 1) := by decide +kernel
theorem dX0_isIdle_6 : decode cX0_isIdle 6 = .ok (.iconst 0, 1) := by decide +kernel
theorem dX0_isIdle_7 : decode cX0_isIdle 7 = .ok (.istore_n 3, 1) := by decide +kernel
theorem dX0_isIdle_8 : decode cX0_isIdle 8 = .ok (.iload_n 3, 1) := by decide +kernel
theorem dX0_isIdle_9 : decode cX0_isIdle 9 = .ok (.sipush 240, 3) := by decide +kernel
theorem dX0_isIdle_12 : decode cX0_isIdle 12 = .ok (.if_icmp .ge 33, 3) := by decide +kernel
theorem dX0_isIdle_15 : decode cX0_isIdle 15 = .ok (.aload_n 0, 1) := by decide +kernel
theorem dX0_isIdle_16 : decode cX0_isIdle 16 = .ok (.getfield 15, 3) := by decide +kernel
theorem dX0_isIdle_19 : decode cX0_isIdle 19 = .ok (.iload_n 3, 1) := by decide +kernel
theorem dX0_isIdle_20 : decode cX0_isIdle 20 = .ok (.iaload, 1) := by decide +kernel
theorem dX0_isIdle_21 : decode cX0_isIdle 21 = .ok (.iload_n 2, 1) := by decide +kernel
theorem dX0_isIdle_22 : decode cX0_isIdle 22 = .ok (.iconst (-1), 1) := by decide +kernel
theorem dX0_isIdle_23 : decode cX0_isIdle 23 = .ok (.ixor, 1) := by decide +kernel
theorem dX0_isIdle_24 : decode cX0_isIdle 24 = .ok (.iand, 1) := by decide +kernel
theorem dX0_isIdle_25 : decode cX0_isIdle 25 = .ok (.ifCond .eq 14, 3) := by decide +kernel
theorem dX0_isIdle_28 : decode cX0_isIdle 28 = .ok (.aload_n 0, 1) := by decide +kernel
theorem dX0_isIdle_29 : decode cX0_isIdle 29 = .ok (.iload_n 3, 1) := by decide +kernel
theorem dX0_isIdle_30 : decode cX0_isIdle 30 = .ok (.iload_n 2, 1) := by decide +kernel
theorem dX0_isIdle_31 : decode cX0_isIdle 31 = .ok (.invokevirtual 86, 3) := by decide +kernel
theorem dX0_isIdle_34 : decode cX0_isIdle 34 = .ok (.ifCond .eq 5, 3) := by decide +kernel
theorem dX0_isIdle_37 : decode cX0_isIdle 37 = .ok (.iconst 0, 1) := by decide +kernel
theorem dX0_isIdle_38 : decode cX0_isIdle 38 = .ok (.ireturn, 1) := by decide +kernel
theorem dX0_isIdle_39 : decode cX0_isIdle 39 = .ok (.iinc 3 1, 3) := by decide +kernel
theorem dX0_isIdle_42 : decode cX0_isIdle 42 = .ok (.goto (-34), 3) := by decide +kernel
theorem dX0_isIdle_45 : decode cX0_isIdle 45 = .ok (.iconst 1, 1) := by decide +kernel
theorem dX0_isIdle_46 : decode cX0_isIdle 46 = .ok (.ireturn, 1) := by decide +kernel
set_option maxRecDepth 20000 in
theorem ggX0_isChanged_X0_leave : GoodIn wsX0_isChanged wsX0_leave := goodIn_r _ [5, 6, 7, 8, 4, 9, 10, 11, 12, 13, 14, 15, 16, 17, 18, 19, 20, 21, 22, 23, 24, 25, 26, 27, 28, 29, 30, 31, 32, 33, 34] (by decide +kernel) (by decide +kernel)
set_option maxRecDepth 20000 in
theorem gX0_isChanged_X0_leave : GoodIn wsX0_isChanged (wsV RX0 73 RX0 yX0_leave wsX0_leave) := goodIn_app (goodIn_of _ (by decide +kernel)) ggX0_isChanged_X0_leave
theorem dX0_isChanged_0 : decode cX0_isChanged 0 = .ok (.iconst 0, 1) := by decide +kernel
theorem dX0_isChanged_1 : decode cX0_isChanged 1 = .ok (.istore_n 3, 1) := by decide +kernel
theorem dX0_isChanged_2 : decode cX0_isChanged 2 = .ok (.iload_n 3, 1) := by decide +kernel
theorem dX0_isChanged_3 : decode cX0_isChanged 3 = .ok (.bipush 6, 2) := by decide +kernel
theorem dX0_isChanged_5 : decode cX0_isChanged 5 = .ok (.if_icmp .ge 28, 3) := by decide +kernel
theorem dX0_isChanged_8 : decode cX0_isChanged 8 = .ok (.aload_n 0, 1) := by decide +kernel
theorem dX0_isChanged_9 : decode cX0_isChanged 9 = .ok (.iload_n 3, 1) := by decide +kernel
theorem dX0_isChanged_10 : decode cX0_isChanged 10 = .ok (.iload_n 1, 1) := by decide +kernel
theorem dX0_isChanged_11 : decode cX0_isChanged 11 = .ok (.iconst (-1), 1) := by decide +kernel
theorem dX0_isChanged_12 : decode cX0_isChanged 12 = .ok (.invokevirtual 73, 3) := by decide +kernel
theorem dX0_isChanged_15 : decode cX0_isChanged 15 = .ok (.aload_n 0, 1) := by decide +kernel
theorem dX0_isChanged_16 : decode cX0_isChanged 16 = .ok (.iload_n 3, 1) := by decide +kernel
theorem dX0_isChanged_17 : decode cX0_isChanged 17 = .ok (.iload_n 1, 1) := by decide +kernel
theorem dX0_isChanged_18 : decode cX0_isChanged 18 = .ok (.iload_n 2, 1) := by decide +kernel
theorem dX0_isChanged_19 : decode cX0_isChanged 19 = .ok (.invokevirtual 73, 3) := by decide +kernel
theorem dX0_isChanged_22 : decode cX0_isChanged 22 = .ok (.if_icmp .eq 5, 3) := by decide +kernel
theorem dX0_isChanged_25 : decode cX0_isChanged 25 = .ok (.iconst 1, 1) := by decide +kernel
theorem dX0_isChanged_26 : decode cX0_isChanged 26 = .ok (.ireturn, 1) := by decide +kernel
theorem dX0_isChanged_27 : decode cX0_isChanged 27 = .ok (.iinc 3 1, 3) := by decide +kernel
theorem dX0_isChanged_30 : decode cX0_isChanged 30 = .ok (.goto (-28), 3) := by decide +kernel
theorem dX0_isChanged_33 : decode cX0_isChanged 33 = .ok (.iconst 0, 1) := by decide +kernel
theorem dX0_isChanged_34 : decode cX0_isChanged 34 = .ok (.ireturn, 1) := by decide +kernel
theorem dX1_init_0 : decode cX1_init 0 = .ok (.aload_n 0, 1) := by decide +kernel
theorem dX1_init_1 : decode cX1_init 1 = .ok (.invokespecial 3, 3) := by decide +kernel
theorem dX1_init_4 : decode cX1_init 4 = .ok (.aload_n 0, 1) := by decide +kernel
theorem dX1_init_5 : decode cX1_init 5 = .ok (.bipush 54, 2) := by decide +kernel
theorem dX1_init_7 : decode cX1_init 7 = .ok (.newarray .int, 2) := by decide +kernel
theorem dX1_init_9 : decode cX1_init 9 = .ok (.putfield 9, 3) := by decide +kernel
theorem dX1_init_12 : decode cX1_init 12 = .ok (.aload_n 0, 1) := by decide +kernel
theorem dX1_init_13 : decode cX1_init 13 = .ok (.aload_n 1, 1) := by decide +kernel
theorem dX1_init_14 : decode cX1_init 14 = .ok (.putfield 15, 3) := by decide +kernel
theorem dX1_init_17 : decode cX1_init 17 = .ok (.aload_n 0, 1) := by decide +kernel
theorem dX1_init_18 : decode cX1_init 18 = .ok (.aload_n 2, 1) := by decide +kernel
theorem dX1_init_19 : decode cX1_init 19 = .ok (.putfield 19, 3) := by decide +kernel
theorem dX1_init_22 : decode cX1_init 22 = .ok (.return_, 1) := by decide +kernel
theorem dX1_guildTold_0 : decode cX1_guildTold 0 = .ok (.iload_n 0, 1) := by decide +kernel
theorem dX1_guildTold_1 : decode cX1_guildTold 1 = .ok (.iconst 3, 1) := by decide +kernel
theorem dX1_guildTold_2 : decode cX1_guildTold 2 = .ok (.iload_n 1, 1) := by decide +kernel
theorem dX1_guildTold_3 : decode cX1_guildTold 3 = .ok (.imul, 1) := by decide +kernel
theorem dX1_guildTold_4 : decode cX1_guildTold 4 = .ok (.ishr, 1) := by decide +kernel
theorem dX1_guildTold_5 : decode cX1_guildTold 5 = .ok (.bipush 7, 2) := by decide +kernel
theorem dX1_guildTold_7 : decode cX1_guildTold 7 = .ok (.iand, 1) := by decide +kernel
theorem dX1_guildTold_8 : decode cX1_guildTold 8 = .ok (.ireturn, 1) := by decide +kernel
set_option maxRecDepth 20000 in
theorem ggX1_workTold_X6_workAt : GoodIn wsX1_workTold wsX6_workAt := goodIn_r _ [5, 6, 7, 8] (by decide +kernel) (by decide +kernel)
set_option maxRecDepth 20000 in
theorem gX1_workTold_X6_workAt : GoodIn wsX1_workTold (wsV RX1 23 RX6 yX6_workAt wsX6_workAt) := goodIn_app (goodIn_of _ (by decide +kernel)) ggX1_workTold_X6_workAt
theorem dX1_workTold_0 : decode cX1_workTold 0 = .ok (.aload_n 0, 1) := by decide +kernel
theorem dX1_workTold_1 : decode cX1_workTold 1 = .ok (.iload_n 2, 1) := by decide +kernel
theorem dX1_workTold_2 : decode cX1_workTold 2 = .ok (.iload_n 1, 1) := by decide +kernel
theorem dX1_workTold_3 : decode cX1_workTold 3 = .ok (.iload_n 2, 1) := by decide +kernel
theorem dX1_workTold_4 : decode cX1_workTold 4 = .ok (.ishr, 1) := by decide +kernel
theorem dX1_workTold_5 : decode cX1_workTold 5 = .ok (.iconst 1, 1) := by decide +kernel
theorem dX1_workTold_6 : decode cX1_workTold 6 = .ok (.iand, 1) := by decide +kernel
theorem dX1_workTold_7 : decode cX1_workTold 7 = .ok (.invokevirtual 23, 3) := by decide +kernel
theorem dX1_workTold_10 : decode cX1_workTold 10 = .ok (.ireturn, 1) := by decide +kernel
set_option maxRecDepth 20000 in
theorem ggX1_firstWrongStep_X1_guildTold : GoodIn wsX1_firstWrongStep wsX1_guildTold := goodIn_r _ [6] (by decide +kernel) (by decide +kernel)
set_option maxRecDepth 20000 in
theorem gX1_firstWrongStep_X1_guildTold : GoodIn wsX1_firstWrongStep (va_wsS RX1 33 yX1_guildTold wsX1_guildTold) := goodIn_app (goodIn_of _ (by decide +kernel)) ggX1_firstWrongStep_X1_guildTold
set_option maxRecDepth 20000 in
theorem ggX1_firstWrongStep_X1_workTold : GoodIn wsX1_firstWrongStep wsX1_workTold := goodIn_r _ [9, 10, 11, 12, 13, 14, 15, 47, 48] (by decide +kernel) (by decide +kernel)
set_option maxRecDepth 20000 in
theorem gX1_firstWrongStep_X1_workTold : GoodIn wsX1_firstWrongStep (va_wsS RX1 36 yX1_workTold wsX1_workTold) := goodIn_app (goodIn_of _ (by decide +kernel)) ggX1_firstWrongStep_X1_workTold
set_option maxRecDepth 20000 in
theorem ggX1_firstWrongStep_X0_handsFor : GoodIn wsX1_firstWrongStep wsX0_handsFor := goodIn_r _ [20, 21, 22, 23, 19, 24, 25, 26, 27, 28, 29, 30, 31, 32, 33, 34, 35, 36, 37, 38, 39, 40, 41, 42, 43, 44, 45, 46, 52, 53, 54, 55, 56, 57, 58] (by decide +kernel) (by decide +kernel)
set_option maxRecDepth 20000 in
theorem gX1_firstWrongStep_X0_handsFor : GoodIn wsX1_firstWrongStep (wsV RX1 40 RX0 yX0_handsFor wsX0_handsFor) := goodIn_app (goodIn_of _ (by decide +kernel)) ggX1_firstWrongStep_X0_handsFor
theorem dX1_firstWrongStep_0 : decode cX1_firstWrongStep 0 = .ok (.iconst 0, 1) := by decide +kernel
theorem dX1_firstWrongStep_1 : decode cX1_firstWrongStep 1 = .ok (.istore 4, 2) := by decide +kernel
theorem dX1_firstWrongStep_3 : decode cX1_firstWrongStep 3 = .ok (.iload 4, 2) := by decide +kernel
theorem dX1_firstWrongStep_5 : decode cX1_firstWrongStep 5 = .ok (.aload_n 1, 1) := by decide +kernel
theorem dX1_firstWrongStep_6 : decode cX1_firstWrongStep 6 = .ok (.getfield 29, 3) := by decide +kernel
theorem dX1_firstWrongStep_9 : decode cX1_firstWrongStep 9 = .ok (.if_icmp .ge 56, 3) := by decide +kernel
theorem dX1_firstWrongStep_12 : decode cX1_firstWrongStep 12 = .ok (.iload_n 2, 1) := by decide +kernel
theorem dX1_firstWrongStep_13 : decode cX1_firstWrongStep 13 = .ok (.iload 4, 2) := by decide +kernel
theorem dX1_firstWrongStep_15 : decode cX1_firstWrongStep 15 = .ok (.invokestatic 33, 3) := by decide +kernel
theorem dX1_firstWrongStep_18 : decode cX1_firstWrongStep 18 = .ok (.istore 5, 2) := by decide +kernel
theorem dX1_firstWrongStep_20 : decode cX1_firstWrongStep 20 = .ok (.aload_n 1, 1) := by decide +kernel
theorem dX1_firstWrongStep_21 : decode cX1_firstWrongStep 21 = .ok (.iload_n 3, 1) := by decide +kernel
theorem dX1_firstWrongStep_22 : decode cX1_firstWrongStep 22 = .ok (.iload 4, 2) := by decide +kernel
theorem dX1_firstWrongStep_24 : decode cX1_firstWrongStep 24 = .ok (.invokestatic 36, 3) := by decide +kernel
theorem dX1_firstWrongStep_27 : decode cX1_firstWrongStep 27 = .ok (.istore 6, 2) := by decide +kernel
theorem dX1_firstWrongStep_29 : decode cX1_firstWrongStep 29 = .ok (.iload 5, 2) := by decide +kernel
theorem dX1_firstWrongStep_31 : decode cX1_firstWrongStep 31 = .ok (.bipush 6, 2) := by decide +kernel
theorem dX1_firstWrongStep_33 : decode cX1_firstWrongStep 33 = .ok (.if_icmp .ge 23, 3) := by decide +kernel
theorem dX1_firstWrongStep_36 : decode cX1_firstWrongStep 36 = .ok (.iload 6, 2) := by decide +kernel
theorem dX1_firstWrongStep_38 : decode cX1_firstWrongStep 38 = .ok (.iconst (-1), 1) := by decide +kernel
theorem dX1_firstWrongStep_39 : decode cX1_firstWrongStep 39 = .ok (.if_icmp .eq 17, 3) := by decide +kernel
theorem dX1_firstWrongStep_42 : decode cX1_firstWrongStep 42 = .ok (.aload_n 0, 1) := by decide +kernel
theorem dX1_firstWrongStep_43 : decode cX1_firstWrongStep 43 = .ok (.getfield 15, 3) := by decide +kernel
theorem dX1_firstWrongStep_46 : decode cX1_firstWrongStep 46 = .ok (.iload 5, 2) := by decide +kernel
theorem dX1_firstWrongStep_48 : decode cX1_firstWrongStep 48 = .ok (.iload 6, 2) := by decide +kernel
theorem dX1_firstWrongStep_50 : decode cX1_firstWrongStep 50 = .ok (.invokevirtual 40, 3) := by decide +kernel
theorem dX1_firstWrongStep_53 : decode cX1_firstWrongStep 53 = .ok (.ifCond .ne 6, 3) := by decide +kernel
theorem dX1_firstWrongStep_56 : decode cX1_firstWrongStep 56 = .ok (.iload 4, 2) := by decide +kernel
theorem dX1_firstWrongStep_58 : decode cX1_firstWrongStep 58 = .ok (.ireturn, 1) := by decide +kernel
theorem dX1_firstWrongStep_59 : decode cX1_firstWrongStep 59 = .ok (.iinc 4 1, 3) := by decide +kernel
theorem dX1_firstWrongStep_62 : decode cX1_firstWrongStep 62 = .ok (.goto (-59), 3) := by decide +kernel
theorem dX1_firstWrongStep_65 : decode cX1_firstWrongStep 65 = .ok (.iconst (-1), 1) := by decide +kernel
theorem dX1_firstWrongStep_66 : decode cX1_firstWrongStep 66 = .ok (.ireturn, 1) := by decide +kernel
set_option maxRecDepth 20000 in
theorem ggX1_costOfWay_X1_guildTold : GoodIn wsX1_costOfWay wsX1_guildTold := goodIn_r _ [6] (by decide +kernel) (by decide +kernel)
set_option maxRecDepth 20000 in
theorem gX1_costOfWay_X1_guildTold : GoodIn wsX1_costOfWay (va_wsS RX1 33 yX1_guildTold wsX1_guildTold) := goodIn_app (goodIn_of _ (by decide +kernel)) ggX1_costOfWay_X1_guildTold

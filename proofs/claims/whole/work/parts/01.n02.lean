set_option maxRecDepth 20000 in
theorem ggX1_costOfWay_X1_workTold : GoodIn wsX1_costOfWay wsX1_workTold := goodIn_r _ [9, 10, 11, 12, 13, 14, 15, 28, 29] (by decide +kernel) (by decide +kernel)
set_option maxRecDepth 20000 in
theorem gX1_costOfWay_X1_workTold : GoodIn wsX1_costOfWay (va_wsS RX1 36 yX1_workTold wsX1_workTold) := goodIn_app (goodIn_of _ (by decide +kernel)) ggX1_costOfWay_X1_workTold
set_option maxRecDepth 20000 in
theorem ggX1_costOfWay_X4_ofWork : GoodIn wsX1_costOfWay wsX4_ofWork := goodIn_r _ [20, 21, 22, 33, 34, 35] (by decide +kernel) (by decide +kernel)
set_option maxRecDepth 20000 in
theorem gX1_costOfWay_X4_ofWork : GoodIn wsX1_costOfWay (wsV RX1 45 RX4 yX4_ofWork wsX4_ofWork) := goodIn_app (goodIn_of _ (by decide +kernel)) ggX1_costOfWay_X4_ofWork
set_option maxRecDepth 20000 in
theorem ggX1_costOfWay_X4_ofCarrying : GoodIn wsX1_costOfWay wsX4_ofCarrying := goodIn_r _ [26, 27, 33, 34, 35] (by decide +kernel) (by decide +kernel)
set_option maxRecDepth 20000 in
theorem gX1_costOfWay_X4_ofCarrying : GoodIn wsX1_costOfWay (wsV RX1 51 RX4 yX4_ofCarrying wsX4_ofCarrying) := goodIn_app (goodIn_of _ (by decide +kernel)) ggX1_costOfWay_X4_ofCarrying
theorem dX1_costOfWay_0 : decode cX1_costOfWay 0 = .ok (.iconst 0, 1) := by decide +kernel
theorem dX1_costOfWay_1 : decode cX1_costOfWay 1 = .ok (.istore 5, 2) := by decide +kernel
theorem dX1_costOfWay_3 : decode cX1_costOfWay 3 = .ok (.iconst 0, 1) := by decide +kernel
theorem dX1_costOfWay_4 : decode cX1_costOfWay 4 = .ok (.istore 6, 2) := by decide +kernel
theorem dX1_costOfWay_6 : decode cX1_costOfWay 6 = .ok (.iload 6, 2) := by decide +kernel
theorem dX1_costOfWay_8 : decode cX1_costOfWay 8 = .ok (.aload_n 1, 1) := by decide +kernel
theorem dX1_costOfWay_9 : decode cX1_costOfWay 9 = .ok (.getfield 29, 3) := by decide +kernel
theorem dX1_costOfWay_12 : decode cX1_costOfWay 12 = .ok (.if_icmp .ge 72, 3) := by decide +kernel
theorem dX1_costOfWay_15 : decode cX1_costOfWay 15 = .ok (.iload_n 2, 1) := by decide +kernel
theorem dX1_costOfWay_16 : decode cX1_costOfWay 16 = .ok (.iload 6, 2) := by decide +kernel
theorem dX1_costOfWay_18 : decode cX1_costOfWay 18 = .ok (.invokestatic 33, 3) := by decide +kernel
theorem dX1_costOfWay_21 : decode cX1_costOfWay 21 = .ok (.istore 7, 2) := by decide +kernel
theorem dX1_costOfWay_23 : decode cX1_costOfWay 23 = .ok (.iload 5, 2) := by decide +kernel
theorem dX1_costOfWay_25 : decode cX1_costOfWay 25 = .ok (.aload_n 0, 1) := by decide +kernel
theorem dX1_costOfWay_26 : decode cX1_costOfWay 26 = .ok (.getfield 19, 3) := by decide +kernel
theorem dX1_costOfWay_29 : decode cX1_costOfWay 29 = .ok (.iload 7, 2) := by decide +kernel
theorem dX1_costOfWay_31 : decode cX1_costOfWay 31 = .ok (.aload_n 1, 1) := by decide +kernel
theorem dX1_costOfWay_32 : decode cX1_costOfWay 32 = .ok (.iload_n 3, 1) := by decide +kernel
theorem dX1_costOfWay_33 : decode cX1_costOfWay 33 = .ok (.iload 6, 2) := by decide +kernel
theorem dX1_costOfWay_35 : decode cX1_costOfWay 35 = .ok (.invokestatic 36, 3) := by decide +kernel
theorem dX1_costOfWay_38 : decode cX1_costOfWay 38 = .ok (.iload 4, 2) := by decide +kernel
theorem dX1_costOfWay_40 : decode cX1_costOfWay 40 = .ok (.invokevirtual 45, 3) := by decide +kernel
theorem dX1_costOfWay_43 : decode cX1_costOfWay 43 = .ok (.iadd, 1) := by decide +kernel
theorem dX1_costOfWay_44 : decode cX1_costOfWay 44 = .ok (.istore 5, 2) := by decide +kernel
theorem dX1_costOfWay_46 : decode cX1_costOfWay 46 = .ok (.iload 6, 2) := by decide +kernel
theorem dX1_costOfWay_48 : decode cX1_costOfWay 48 = .ok (.ifCond .le 30, 3) := by decide +kernel
theorem dX1_costOfWay_51 : decode cX1_costOfWay 51 = .ok (.iload 7, 2) := by decide +kernel
theorem dX1_costOfWay_53 : decode cX1_costOfWay 53 = .ok (.iload_n 2, 1) := by decide +kernel
theorem dX1_costOfWay_54 : decode cX1_costOfWay 54 = .ok (.iload 6, 2) := by decide +kernel
theorem dX1_costOfWay_56 : decode cX1_costOfWay 56 = .ok (.iconst 1, 1) := by decide +kernel
theorem dX1_costOfWay_57 : decode cX1_costOfWay 57 = .ok (.isub, 1) := by decide +kernel
theorem dX1_costOfWay_58 : decode cX1_costOfWay 58 = .ok (.invokestatic 33, 3) := by decide +kernel
theorem dX1_costOfWay_61 : decode cX1_costOfWay 61 = .ok (.if_icmp .eq 17, 3) := by decide +kernel
theorem dX1_costOfWay_64 : decode cX1_costOfWay 64 = .ok (.iload 5, 2) := by decide +kernel
theorem dX1_costOfWay_66 : decode cX1_costOfWay 66 = .ok (.aload_n 0, 1) := by decide +kernel
theorem dX1_costOfWay_67 : decode cX1_costOfWay 67 = .ok (.getfield 19, 3) := by decide +kernel
theorem dX1_costOfWay_70 : decode cX1_costOfWay 70 = .ok (.iload 4, 2) := by decide +kernel
theorem dX1_costOfWay_72 : decode cX1_costOfWay 72 = .ok (.invokevirtual 51, 3) := by decide +kernel
theorem dX1_costOfWay_75 : decode cX1_costOfWay 75 = .ok (.iadd, 1) := by decide +kernel
theorem dX1_costOfWay_76 : decode cX1_costOfWay 76 = .ok (.istore 5, 2) := by decide +kernel
theorem dX1_costOfWay_78 : decode cX1_costOfWay 78 = .ok (.iinc 6 1, 3) := by decide +kernel
theorem dX1_costOfWay_81 : decode cX1_costOfWay 81 = .ok (.goto (-75), 3) := by decide +kernel
theorem dX1_costOfWay_84 : decode cX1_costOfWay 84 = .ok (.iload 5, 2) := by decide +kernel
theorem dX1_costOfWay_86 : decode cX1_costOfWay 86 = .ok (.ireturn, 1) := by decide +kernel
set_option maxRecDepth 20000 in
theorem ggX1_handsOfWay_X1_guildTold : GoodIn wsX1_handsOfWay wsX1_guildTold := goodIn_r _ [6] (by decide +kernel) (by decide +kernel)
set_option maxRecDepth 20000 in
theorem gX1_handsOfWay_X1_guildTold : GoodIn wsX1_handsOfWay (va_wsS RX1 33 yX1_guildTold wsX1_guildTold) := goodIn_app (goodIn_of _ (by decide +kernel)) ggX1_handsOfWay_X1_guildTold
set_option maxRecDepth 20000 in
theorem ggX1_handsOfWay_X1_workTold : GoodIn wsX1_handsOfWay wsX1_workTold := goodIn_r _ [9, 10, 11, 12, 13, 14, 15, 47, 48] (by decide +kernel) (by decide +kernel)
set_option maxRecDepth 20000 in
theorem gX1_handsOfWay_X1_workTold : GoodIn wsX1_handsOfWay (va_wsS RX1 36 yX1_workTold wsX1_workTold) := goodIn_app (goodIn_of _ (by decide +kernel)) ggX1_handsOfWay_X1_workTold
set_option maxRecDepth 20000 in
theorem ggX1_handsOfWay_X0_handsFor : GoodIn wsX1_handsOfWay wsX0_handsFor := goodIn_r _ [20, 21, 22, 23, 19, 24, 25, 26, 27, 28, 29, 30, 31, 32, 33, 34, 35, 36, 37, 38, 39, 40, 41, 42, 43, 44, 45, 46, 52, 53, 54, 55, 56, 57, 58] (by decide +kernel) (by decide +kernel)
set_option maxRecDepth 20000 in
theorem gX1_handsOfWay_X0_handsFor : GoodIn wsX1_handsOfWay (wsV RX1 40 RX0 yX0_handsFor wsX0_handsFor) := goodIn_app (goodIn_of _ (by decide +kernel)) ggX1_handsOfWay_X0_handsFor
theorem dX1_handsOfWay_0 : decode cX1_handsOfWay 0 = .ok (.iconst 0, 1) := by decide +kernel
theorem dX1_handsOfWay_1 : decode cX1_handsOfWay 1 = .ok (.istore 4, 2) := by decide +kernel
theorem dX1_handsOfWay_3 : decode cX1_handsOfWay 3 = .ok (.iconst 0, 1) := by decide +kernel
theorem dX1_handsOfWay_4 : decode cX1_handsOfWay 4 = .ok (.istore 5, 2) := by decide +kernel
theorem dX1_handsOfWay_6 : decode cX1_handsOfWay 6 = .ok (.iload 5, 2) := by decide +kernel
theorem dX1_handsOfWay_8 : decode cX1_handsOfWay 8 = .ok (.aload_n 1, 1) := by decide +kernel
theorem dX1_handsOfWay_9 : decode cX1_handsOfWay 9 = .ok (.getfield 29, 3) := by decide +kernel
theorem dX1_handsOfWay_12 : decode cX1_handsOfWay 12 = .ok (.if_icmp .ge 34, 3) := by decide +kernel
theorem dX1_handsOfWay_15 : decode cX1_handsOfWay 15 = .ok (.iload 4, 2) := by decide +kernel
theorem dX1_handsOfWay_17 : decode cX1_handsOfWay 17 = .ok (.aload_n 0, 1) := by decide +kernel
theorem dX1_handsOfWay_18 : decode cX1_handsOfWay 18 = .ok (.getfield 15, 3) := by decide +kernel
theorem dX1_handsOfWay_21 : decode cX1_handsOfWay 21 = .ok (.iload_n 2, 1) := by decide +kernel
theorem dX1_handsOfWay_22 : decode cX1_handsOfWay 22 = .ok (.iload 5, 2) := by decide +kernel
theorem dX1_handsOfWay_24 : decode cX1_handsOfWay 24 = .ok (.invokestatic 33, 3) := by decide +kernel
theorem dX1_handsOfWay_27 : decode cX1_handsOfWay 27 = .ok (.aload_n 1, 1) := by decide +kernel
theorem dX1_handsOfWay_28 : decode cX1_handsOfWay 28 = .ok (.iload_n 3, 1) := by decide +kernel
theorem dX1_handsOfWay_29 : decode cX1_handsOfWay 29 = .ok (.iload 5, 2) := by decide +kernel
theorem dX1_handsOfWay_31 : decode cX1_handsOfWay 31 = .ok (.invokestatic 36, 3) := by decide +kernel
theorem dX1_handsOfWay_34 : decode cX1_handsOfWay 34 = .ok (.invokevirtual 40, 3) := by decide +kernel
theorem dX1_handsOfWay_37 : decode cX1_handsOfWay 37 = .ok (.ior, 1) := by decide +kernel
theorem dX1_handsOfWay_38 : decode cX1_handsOfWay 38 = .ok (.istore 4, 2) := by decide +kernel
theorem dX1_handsOfWay_40 : decode cX1_handsOfWay 40 = .ok (.iinc 5 1, 3) := by decide +kernel
theorem dX1_handsOfWay_43 : decode cX1_handsOfWay 43 = .ok (.goto (-37), 3) := by decide +kernel
theorem dX1_handsOfWay_46 : decode cX1_handsOfWay 46 = .ok (.iload 4, 2) := by decide +kernel
theorem dX1_handsOfWay_48 : decode cX1_handsOfWay 48 = .ok (.ireturn, 1) := by decide +kernel
set_option maxRecDepth 20000 in
theorem ggX1_setsForWork_X0_leave : GoodIn wsX1_setsForWork wsX0_leave := goodIn_r _ [6, 7, 8, 9, 5, 10, 11, 12, 13, 14, 15, 16, 17, 18, 19, 20, 21, 22, 23, 24, 25, 26, 27, 28, 32, 33, 34, 35, 36, 37, 38] (by decide +kernel) (by decide +kernel)
set_option maxRecDepth 20000 in
theorem gX1_setsForWork_X0_leave : GoodIn wsX1_setsForWork (wsV RX1 55 RX0 yX0_leave wsX0_leave) := goodIn_app (goodIn_of _ (by decide +kernel)) ggX1_setsForWork_X0_leave
theorem dX1_setsForWork_0 : decode cX1_setsForWork 0 = .ok (.lconst 0, 1) := by decide +kernel
theorem dX1_setsForWork_1 : decode cX1_setsForWork 1 = .ok (.lstore_n 3, 1) := by decide +kernel
theorem dX1_setsForWork_2 : decode cX1_setsForWork 2 = .ok (.iload_n 1, 1) := by decide +kernel
theorem dX1_setsForWork_3 : decode cX1_setsForWork 3 = .ok (.iconst (-1), 1) := by decide +kernel
theorem dX1_setsForWork_4 : decode cX1_setsForWork 4 = .ok (.if_icmp .ne 5, 3) := by decide +kernel
theorem dX1_setsForWork_7 : decode cX1_setsForWork 7 = .ok (.lload_n 3, 1) := by decide +kernel
theorem dX1_setsForWork_8 : decode cX1_setsForWork 8 = .ok (.lreturn, 1) := by decide +kernel
theorem dX1_setsForWork_9 : decode cX1_setsForWork 9 = .ok (.iconst 0, 1) := by decide +kernel
theorem dX1_setsForWork_10 : decode cX1_setsForWork 10 = .ok (.istore 5, 2) := by decide +kernel
theorem dX1_setsForWork_12 : decode cX1_setsForWork 12 = .ok (.iload 5, 2) := by decide +kernel
theorem dX1_setsForWork_14 : decode cX1_setsForWork 14 = .ok (.bipush 6, 2) := by decide +kernel
theorem dX1_setsForWork_16 : decode cX1_setsForWork 16 = .ok (.if_icmp .ge 63, 3) := by decide +kernel
theorem dX1_setsForWork_19 : decode cX1_setsForWork 19 = .ok (.aload_n 0, 1) := by decide +kernel
theorem dX1_setsForWork_20 : decode cX1_setsForWork 20 = .ok (.getfield 15, 3) := by decide +kernel
theorem dX1_setsForWork_23 : decode cX1_setsForWork 23 = .ok (.iload 5, 2) := by decide +kernel
theorem dX1_setsForWork_25 : decode cX1_setsForWork 25 = .ok (.iload_n 1, 1) := by decide +kernel
theorem dX1_setsForWork_26 : decode cX1_setsForWork 26 = .ok (.iload_n 2, 1) := by decide +kernel
theorem dX1_setsForWork_27 : decode cX1_setsForWork 27 = .ok (.invokevirtual 55, 3) := by decide +kernel
theorem dX1_setsForWork_30 : decode cX1_setsForWork 30 = .ok (.istore 6, 2) := by decide +kernel
theorem dX1_setsForWork_32 : decode cX1_setsForWork 32 = .ok (.iload 6, 2) := by decide +kernel
theorem dX1_setsForWork_34 : decode cX1_setsForWork 34 = .ok (.iconst 1, 1) := by decide +kernel
theorem dX1_setsForWork_35 : decode cX1_setsForWork 35 = .ok (.if_icmp .ne 15, 3) := by decide +kernel
theorem dX1_setsForWork_38 : decode cX1_setsForWork 38 = .ok (.lload_n 3, 1) := by decide +kernel
theorem dX1_setsForWork_39 : decode cX1_setsForWork 39 = .ok (.getstatic 58, 3) := by decide +kernel
theorem dX1_setsForWork_42 : decode cX1_setsForWork 42 = .ok (.iload 5, 2) := by decide +kernel
theorem dX1_setsForWork_44 : decode cX1_setsForWork 44 = .ok (.laload, 1) := by decide +kernel
theorem dX1_setsForWork_45 : decode cX1_setsForWork 45 = .ok (.lor, 1) := by decide +kernel
theorem dX1_setsForWork_46 : decode cX1_setsForWork 46 = .ok (.lstore_n 3, 1) := by decide +kernel
theorem dX1_setsForWork_47 : decode cX1_setsForWork 47 = .ok (.goto 26, 3) := by decide +kernel
theorem dX1_setsForWork_50 : decode cX1_setsForWork 50 = .ok (.iload 6, 2) := by decide +kernel
theorem dX1_setsForWork_52 : decode cX1_setsForWork 52 = .ok (.ifCond .eq 21, 3) := by decide +kernel
theorem dX1_setsForWork_55 : decode cX1_setsForWork 55 = .ok (.lload_n 3, 1) := by decide +kernel
theorem dX1_setsForWork_56 : decode cX1_setsForWork 56 = .ok (.getstatic 58, 3) := by decide +kernel
theorem dX1_setsForWork_59 : decode cX1_setsForWork 59 = .ok (.iload 5, 2) := by decide +kernel
theorem dX1_setsForWork_61 : decode cX1_setsForWork 61 = .ok (.laload, 1) := by decide +kernel
theorem dX1_setsForWork_62 : decode cX1_setsForWork 62 = .ok (.getstatic 58, 3) := by decide +kernel
theorem dX1_setsForWork_65 : decode cX1_setsForWork 65 = .ok (.iload 6, 2) := by decide +kernel
theorem dX1_setsForWork_67 : decode cX1_setsForWork 67 = .ok (.iconst 2, 1) := by decide +kernel
theorem dX1_setsForWork_68 : decode cX1_setsForWork 68 = .ok (.isub, 1) := by decide +kernel
theorem dX1_setsForWork_69 : decode cX1_setsForWork 69 = .ok (.laload, 1) := by decide +kernel
theorem dX1_setsForWork_70 : decode cX1_setsForWork 70 = .ok (.land, 1) := by decide +kernel
theorem dX1_setsForWork_71 : decode cX1_setsForWork 71 = .ok (.lor, 1) := by decide +kernel
theorem dX1_setsForWork_72 : decode cX1_setsForWork 72 = .ok (.lstore_n 3, 1) := by decide +kernel
theorem dX1_setsForWork_73 : decode cX1_setsForWork 73 = .ok (.iinc 5 1, 3) := by decide +kernel
theorem dX1_setsForWork_76 : decode cX1_setsForWork 76 = .ok (.goto (-64), 3) := by decide +kernel
theorem dX1_setsForWork_79 : decode cX1_setsForWork 79 = .ok (.lload_n 3, 1) := by decide +kernel
theorem dX1_setsForWork_80 : decode cX1_setsForWork 80 = .ok (.lreturn, 1) := by decide +kernel
set_option maxRecDepth 20000 in
theorem ggX1_setsForThing_X6_workAt : GoodIn wsX1_setsForThing wsX6_workAt := goodIn_r _ [6, 7, 41, 42] (by decide +kernel) (by decide +kernel)
set_option maxRecDepth 20000 in
theorem gX1_setsForThing_X6_workAt : GoodIn wsX1_setsForThing (wsV RX1 23 RX6 yX6_workAt wsX6_workAt) := goodIn_app (goodIn_of _ (by decide +kernel)) ggX1_setsForThing_X6_workAt
set_option maxRecDepth 20000 in
theorem ggX1_setsForThing_X1_setsForWork : GoodIn wsX1_setsForThing wsX1_setsForWork := goodIn_r _ [12, 13, 14, 15, 16, 17, 18, 19, 20, 21, 22, 23, 24, 25, 26, 27, 28, 29, 30, 31, 32, 33, 34, 35, 36, 37, 38, 39, 40, 43, 44, 45, 46, 47, 48, 49, 50, 51, 52] (by decide +kernel) (by decide +kernel)
set_option maxRecDepth 20000 in
theorem gX1_setsForThing_X1_setsForWork : GoodIn wsX1_setsForThing (wsV RX1 62 RX1 yX1_setsForWork wsX1_setsForWork) := goodIn_app (goodIn_of _ (by decide +kernel)) ggX1_setsForThing_X1_setsForWork
theorem dX1_setsForThing_0 : decode cX1_setsForThing 0 = .ok (.lload 4, 2) := by decide +kernel
theorem dX1_setsForThing_2 : decode cX1_setsForThing 2 = .ok (.lstore 6, 2) := by decide +kernel
theorem dX1_setsForThing_4 : decode cX1_setsForThing 4 = .ok (.iconst 0, 1) := by decide +kernel
theorem dX1_setsForThing_5 : decode cX1_setsForThing 5 = .ok (.istore 8, 2) := by decide +kernel
theorem dX1_setsForThing_7 : decode cX1_setsForThing 7 = .ok (.iload 8, 2) := by decide +kernel
theorem dX1_setsForThing_9 : decode cX1_setsForThing 9 = .ok (.aload_n 1, 1) := by decide +kernel
theorem dX1_setsForThing_10 : decode cX1_setsForThing 10 = .ok (.getfield 29, 3) := by decide +kernel
theorem dX1_setsForThing_13 : decode cX1_setsForThing 13 = .ok (.if_icmp .ge 52, 3) := by decide +kernel
theorem dX1_setsForThing_16 : decode cX1_setsForThing 16 = .ok (.lload 6, 2) := by decide +kernel
theorem dX1_setsForThing_18 : decode cX1_setsForThing 18 = .ok (.lconst 0, 1) := by decide +kernel
theorem dX1_setsForThing_19 : decode cX1_setsForThing 19 = .ok (.lcmp, 1) := by decide +kernel
theorem dX1_setsForThing_20 : decode cX1_setsForThing 20 = .ok (.ifCond .eq 45, 3) := by decide +kernel
theorem dX1_setsForThing_23 : decode cX1_setsForThing 23 = .ok (.iload 8, 2) := by decide +kernel
theorem dX1_setsForThing_25 : decode cX1_setsForThing 25 = .ok (.iload_n 2, 1) := by decide +kernel
theorem dX1_setsForThing_26 : decode cX1_setsForThing 26 = .ok (.if_icmp .eq 33, 3) := by decide +kernel
theorem dX1_setsForThing_29 : decode cX1_setsForThing 29 = .ok (.lload 6, 2) := by decide +kernel
theorem dX1_setsForThing_31 : decode cX1_setsForThing 31 = .ok (.aload_n 0, 1) := by decide +kernel
theorem dX1_setsForThing_32 : decode cX1_setsForThing 32 = .ok (.aload_n 1, 1) := by decide +kernel
theorem dX1_setsForThing_33 : decode cX1_setsForThing 33 = .ok (.iload 8, 2) := by decide +kernel
theorem dX1_setsForThing_35 : decode cX1_setsForThing 35 = .ok (.iconst 0, 1) := by decide +kernel
theorem dX1_setsForThing_36 : decode cX1_setsForThing 36 = .ok (.invokevirtual 23, 3) := by decide +kernel
theorem dX1_setsForThing_39 : decode cX1_setsForThing 39 = .ok (.iload_n 3, 1) := by decide +kernel
theorem dX1_setsForThing_40 : decode cX1_setsForThing 40 = .ok (.invokevirtual 62, 3) := by decide +kernel
theorem dX1_setsForThing_43 : decode cX1_setsForThing 43 = .ok (.aload_n 0, 1) := by decide +kernel
theorem dX1_setsForThing_44 : decode cX1_setsForThing 44 = .ok (.aload_n 1, 1) := by decide +kernel
theorem dX1_setsForThing_45 : decode cX1_setsForThing 45 = .ok (.iload 8, 2) := by decide +kernel
theorem dX1_setsForThing_47 : decode cX1_setsForThing 47 = .ok (.iconst 1, 1) := by decide +kernel
theorem dX1_setsForThing_48 : decode cX1_setsForThing 48 = .ok (.invokevirtual 23, 3) := by decide +kernel
theorem dX1_setsForThing_51 : decode cX1_setsForThing 51 = .ok (.iload_n 3, 1) := by decide +kernel
theorem dX1_setsForThing_52 : decode cX1_setsForThing 52 = .ok (.invokevirtual 62, 3) := by decide +kernel
theorem dX1_setsForThing_55 : decode cX1_setsForThing 55 = .ok (.lor, 1) := by decide +kernel
theorem dX1_setsForThing_56 : decode cX1_setsForThing 56 = .ok (.land, 1) := by decide +kernel
theorem dX1_setsForThing_57 : decode cX1_setsForThing 57 = .ok (.lstore 6, 2) := by decide +kernel
theorem dX1_setsForThing_59 : decode cX1_setsForThing 59 = .ok (.iinc 8 1, 3) := by decide +kernel
theorem dX1_setsForThing_62 : decode cX1_setsForThing 62 = .ok (.goto (-55), 3) := by decide +kernel
theorem dX1_setsForThing_65 : decode cX1_setsForThing 65 = .ok (.lload 6, 2) := by decide +kernel
theorem dX1_setsForThing_67 : decode cX1_setsForThing 67 = .ok (.lreturn, 1) := by decide +kernel
set_option maxRecDepth 20000 in
theorem ggX1_makers_X1_setsForThing : GoodIn wsX1_makers wsX1_setsForThing := goodIn_r _ [6, 7, 8, 9, 10, 11, 12, 13, 14, 15, 16, 5, 17, 18, 19, 20, 21, 22, 23, 24, 25, 26, 27, 28, 29, 30, 31, 32, 33, 34, 35, 36, 37, 38, 39, 40, 41, 42, 43, 44, 45, 46, 47, 48, 49, 50, 51, 52, 53, 54, 55, 56, 57] (by decide +kernel) (by decide +kernel)
set_option maxRecDepth 20000 in
theorem gX1_makers_X1_setsForThing : GoodIn wsX1_makers (wsV RX1 68 RX1 yX1_setsForThing wsX1_setsForThing) := goodIn_app (goodIn_of _ (by decide +kernel)) ggX1_makers_X1_setsForThing
theorem dX1_makers_0 : decode cX1_makers 0 = .ok (.aload_n 0, 1) := by decide +kernel
theorem dX1_makers_1 : decode cX1_makers 1 = .ok (.aload_n 1, 1) := by decide +kernel
theorem dX1_makers_2 : decode cX1_makers 2 = .ok (.iconst (-1), 1) := by decide +kernel
theorem dX1_makers_3 : decode cX1_makers 3 = .ok (.iconst (-1), 1) := by decide +kernel
theorem dX1_makers_4 : decode cX1_makers 4 = .ok (.ldc2_w 66, 3) := by decide +kernel
theorem dX1_makers_7 : decode cX1_makers 7 = .ok (.invokevirtual 68, 3) := by decide +kernel
theorem dX1_makers_10 : decode cX1_makers 10 = .ok (.lreturn, 1) := by decide +kernel
set_option maxRecDepth 20000 in
theorem ggX1_isMadeBy_X1_makers : GoodIn wsX1_isMadeBy wsX1_makers := goodIn_r _ [5, 6, 7, 8, 9, 4, 10, 11, 12, 13, 14, 15, 16, 17, 18, 19, 20, 21, 22, 23, 24, 25, 26, 27, 28, 29, 30, 31, 32, 33, 34, 35, 36, 37, 38, 39, 40, 41, 42, 43, 44, 45, 46, 47, 48, 49, 50, 51, 52, 53, 54, 55, 56, 57, 58, 59, 60, 61] (by decide +kernel) (by decide +kernel)
set_option maxRecDepth 20000 in
theorem gX1_isMadeBy_X1_makers : GoodIn wsX1_isMadeBy (wsV RX1 72 RX1 yX1_makers wsX1_makers) := goodIn_app (goodIn_of _ (by decide +kernel)) ggX1_isMadeBy_X1_makers
theorem dX1_isMadeBy_0 : decode cX1_isMadeBy 0 = .ok (.aload_n 0, 1) := by decide +kernel
theorem dX1_isMadeBy_1 : decode cX1_isMadeBy 1 = .ok (.aload_n 1, 1) := by decide +kernel
theorem dX1_isMadeBy_2 : decode cX1_isMadeBy 2 = .ok (.invokevirtual 72, 3) := by decide +kernel
theorem dX1_isMadeBy_5 : decode cX1_isMadeBy 5 = .ok (.iload_n 2, 1) := by decide +kernel
theorem dX1_isMadeBy_6 : decode cX1_isMadeBy 6 = .ok (.lushr, 1) := by decide +kernel
theorem dX1_isMadeBy_7 : decode cX1_isMadeBy 7 = .ok (.lconst 1, 1) := by decide +kernel
theorem dX1_isMadeBy_8 : decode cX1_isMadeBy 8 = .ok (.land, 1) := by decide +kernel
theorem dX1_isMadeBy_9 : decode cX1_isMadeBy 9 = .ok (.lconst 0, 1) := by decide +kernel
theorem dX1_isMadeBy_10 : decode cX1_isMadeBy 10 = .ok (.lcmp, 1) := by decide +kernel
theorem dX1_isMadeBy_11 : decode cX1_isMadeBy 11 = .ok (.ifCond .eq 7, 3) := by decide +kernel
theorem dX1_isMadeBy_14 : decode cX1_isMadeBy 14 = .ok (.iconst 1, 1) := by decide +kernel
theorem dX1_isMadeBy_15 : decode cX1_isMadeBy 15 = .ok (.goto 4, 3) := by decide +kernel
theorem dX1_isMadeBy_18 : decode cX1_isMadeBy 18 = .ok (.iconst 0, 1) := by decide +kernel
theorem dX1_isMadeBy_19 : decode cX1_isMadeBy 19 = .ok (.ireturn, 1) := by decide +kernel
set_option maxRecDepth 20000 in
theorem ggX1_leastSet_J6_bitCount_0f7a4 : GoodIn wsX1_leastSet wsJ6_bitCount_0f7a4 := goodIn_r _ [4, 5, 6, 7] (by decide +kernel) (by decide +kernel)
set_option maxRecDepth 20000 in
theorem gX1_leastSet_J6_bitCount_0f7a4 : GoodIn wsX1_leastSet (va_wsS RX1 76 yJ6_bitCount_0f7a4 wsJ6_bitCount_0f7a4) := goodIn_app (goodIn_of _ (by decide +kernel)) ggX1_leastSet_J6_bitCount_0f7a4
theorem dX1_leastSet_0 : decode cX1_leastSet 0 = .ok (.iconst (-1), 1) := by decide +kernel
theorem dX1_leastSet_1 : decode cX1_leastSet 1 = .ok (.istore_n 2, 1) := by decide +kernel
theorem dX1_leastSet_2 : decode cX1_leastSet 2 = .ok (.iconst 0, 1) := by decide +kernel
theorem dX1_leastSet_3 : decode cX1_leastSet 3 = .ok (.istore_n 3, 1) := by decide +kernel
theorem dX1_leastSet_4 : decode cX1_leastSet 4 = .ok (.iload_n 3, 1) := by decide +kernel
theorem dX1_leastSet_5 : decode cX1_leastSet 5 = .ok (.bipush 64, 2) := by decide +kernel
theorem dX1_leastSet_7 : decode cX1_leastSet 7 = .ok (.if_icmp .ge 49, 3) := by decide +kernel
theorem dX1_leastSet_10 : decode cX1_leastSet 10 = .ok (.iload_n 2, 1) := by decide +kernel
theorem dX1_leastSet_11 : decode cX1_leastSet 11 = .ok (.iconst (-1), 1) := by decide +kernel
theorem dX1_leastSet_12 : decode cX1_leastSet 12 = .ok (.if_icmp .eq 14, 3) := by decide +kernel
theorem dX1_leastSet_15 : decode cX1_leastSet 15 = .ok (.iload_n 3, 1) := by decide +kernel
theorem dX1_leastSet_16 : decode cX1_leastSet 16 = .ok (.invokestatic 76, 3) := by decide +kernel
theorem dX1_leastSet_19 : decode cX1_leastSet 19 = .ok (.iload_n 2, 1) := by decide +kernel
theorem dX1_leastSet_20 : decode cX1_leastSet 20 = .ok (.invokestatic 76, 3) := by decide +kernel
theorem dX1_leastSet_23 : decode cX1_leastSet 23 = .ok (.if_icmp .ge 7, 3) := by decide +kernel
theorem dX1_leastSet_26 : decode cX1_leastSet 26 = .ok (.iconst 1, 1) := by decide +kernel
theorem dX1_leastSet_27 : decode cX1_leastSet 27 = .ok (.goto 4, 3) := by decide +kernel
theorem dX1_leastSet_30 : decode cX1_leastSet 30 = .ok (.iconst 0, 1) := by decide +kernel
theorem dX1_leastSet_31 : decode cX1_leastSet 31 = .ok (.istore 4, 2) := by decide +kernel
theorem dX1_leastSet_33 : decode cX1_leastSet 33 = .ok (.iload 4, 2) := by decide +kernel
theorem dX1_leastSet_35 : decode cX1_leastSet 35 = .ok (.ifCond .eq 15, 3) := by decide +kernel
theorem dX1_leastSet_38 : decode cX1_leastSet 38 = .ok (.lload_n 0, 1) := by decide +kernel
theorem dX1_leastSet_39 : decode cX1_leastSet 39 = .ok (.iload_n 3, 1) := by decide +kernel
theorem dX1_leastSet_40 : decode cX1_leastSet 40 = .ok (.lushr, 1) := by decide +kernel
theorem dX1_leastSet_41 : decode cX1_leastSet 41 = .ok (.lconst 1, 1) := by decide +kernel
theorem dX1_leastSet_42 : decode cX1_leastSet 42 = .ok (.land, 1) := by decide +kernel
theorem dX1_leastSet_43 : decode cX1_leastSet 43 = .ok (.lconst 0, 1) := by decide +kernel
theorem dX1_leastSet_44 : decode cX1_leastSet 44 = .ok (.lcmp, 1) := by decide +kernel
theorem dX1_leastSet_45 : decode cX1_leastSet 45 = .ok (.ifCond .eq 5, 3) := by decide +kernel
theorem dX1_leastSet_48 : decode cX1_leastSet 48 = .ok (.iload_n 3, 1) := by decide +kernel
theorem dX1_leastSet_49 : decode cX1_leastSet 49 = .ok (.istore_n 2, 1) := by decide +kernel
theorem dX1_leastSet_50 : decode cX1_leastSet 50 = .ok (.iinc 3 1, 3) := by decide +kernel
theorem dX1_leastSet_53 : decode cX1_leastSet 53 = .ok (.goto (-49), 3) := by decide +kernel
theorem dX1_leastSet_56 : decode cX1_leastSet 56 = .ok (.iload_n 2, 1) := by decide +kernel
theorem dX1_leastSet_57 : decode cX1_leastSet 57 = .ok (.ireturn, 1) := by decide +kernel
set_option maxRecDepth 20000 in
theorem ggX1_leastCount_X1_leastSet : GoodIn wsX1_leastCount wsX1_leastSet := goodIn_r _ [4, 5, 6, 7, 8, 9, 10, 11] (by decide +kernel) (by decide +kernel)
set_option maxRecDepth 20000 in
theorem gX1_leastCount_X1_leastSet : GoodIn wsX1_leastCount (va_wsS RX1 81 yX1_leastSet wsX1_leastSet) := goodIn_app (goodIn_of _ (by decide +kernel)) ggX1_leastCount_X1_leastSet
set_option maxRecDepth 20000 in
theorem ggX1_leastCount_J6_bitCount_0f7a4 : GoodIn wsX1_leastCount wsJ6_bitCount_0f7a4 := goodIn_r _ [8, 9, 10, 11] (by decide +kernel) (by decide +kernel)
set_option maxRecDepth 20000 in
theorem gX1_leastCount_J6_bitCount_0f7a4 : GoodIn wsX1_leastCount (va_wsS RX1 76 yJ6_bitCount_0f7a4 wsJ6_bitCount_0f7a4) := goodIn_app (goodIn_of _ (by decide +kernel)) ggX1_leastCount_J6_bitCount_0f7a4
theorem dX1_leastCount_0 : decode cX1_leastCount 0 = .ok (.lload_n 0, 1) := by decide +kernel
theorem dX1_leastCount_1 : decode cX1_leastCount 1 = .ok (.invokestatic 81, 3) := by decide +kernel
theorem dX1_leastCount_4 : decode cX1_leastCount 4 = .ok (.istore_n 2, 1) := by decide +kernel
theorem dX1_leastCount_5 : decode cX1_leastCount 5 = .ok (.iload_n 2, 1) := by decide +kernel
theorem dX1_leastCount_6 : decode cX1_leastCount 6 = .ok (.iconst (-1), 1) := by decide +kernel
theorem dX1_leastCount_7 : decode cX1_leastCount 7 = .ok (.if_icmp .ne 8, 3) := by decide +kernel
theorem dX1_leastCount_10 : decode cX1_leastCount 10 = .ok (.bipush 7, 2) := by decide +kernel
theorem dX1_leastCount_12 : decode cX1_leastCount 12 = .ok (.goto 7, 3) := by decide +kernel
theorem dX1_leastCount_15 : decode cX1_leastCount 15 = .ok (.iload_n 2, 1) := by decide +kernel
theorem dX1_leastCount_16 : decode cX1_leastCount 16 = .ok (.invokestatic 76, 3) := by decide +kernel
theorem dX1_leastCount_19 : decode cX1_leastCount 19 = .ok (.ireturn, 1) := by decide +kernel
set_option maxRecDepth 20000 in
theorem ggX1_setsUpTo_J6_bitCount_0f7a4 : GoodIn wsX1_setsUpTo wsJ6_bitCount_0f7a4 := goodIn_r _ [4, 5, 6, 7] (by decide +kernel) (by decide +kernel)
set_option maxRecDepth 20000 in
theorem gX1_setsUpTo_J6_bitCount_0f7a4 : GoodIn wsX1_setsUpTo (va_wsS RX1 76 yJ6_bitCount_0f7a4 wsJ6_bitCount_0f7a4) := goodIn_app (goodIn_of _ (by decide +kernel)) ggX1_setsUpTo_J6_bitCount_0f7a4
theorem dX1_setsUpTo_0 : decode cX1_setsUpTo 0 = .ok (.lconst 0, 1) := by decide +kernel
theorem dX1_setsUpTo_1 : decode cX1_setsUpTo 1 = .ok (.lstore_n 1, 1) := by decide +kernel
theorem dX1_setsUpTo_2 : decode cX1_setsUpTo 2 = .ok (.iconst 0, 1) := by decide +kernel
theorem dX1_setsUpTo_3 : decode cX1_setsUpTo 3 = .ok (.istore_n 3, 1) := by decide +kernel
theorem dX1_setsUpTo_4 : decode cX1_setsUpTo 4 = .ok (.iload_n 3, 1) := by decide +kernel
theorem dX1_setsUpTo_5 : decode cX1_setsUpTo 5 = .ok (.bipush 64, 2) := by decide +kernel
theorem dX1_setsUpTo_7 : decode cX1_setsUpTo 7 = .ok (.if_icmp .ge 23, 3) := by decide +kernel
theorem dX1_setsUpTo_10 : decode cX1_setsUpTo 10 = .ok (.iload_n 3, 1) := by decide +kernel
theorem dX1_setsUpTo_11 : decode cX1_setsUpTo 11 = .ok (.invokestatic 76, 3) := by decide +kernel
theorem dX1_setsUpTo_14 : decode cX1_setsUpTo 14 = .ok (.iload_n 0, 1) := by decide +kernel
theorem dX1_setsUpTo_15 : decode cX1_setsUpTo 15 = .ok (.if_icmp .gt 9, 3) := by decide +kernel
theorem dX1_setsUpTo_18 : decode cX1_setsUpTo 18 = .ok (.lload_n 1, 1) := by decide +kernel
theorem dX1_setsUpTo_19 : decode cX1_setsUpTo 19 = .ok (.lconst 1, 1) := by decide +kernel
theorem dX1_setsUpTo_20 : decode cX1_setsUpTo 20 = .ok (.iload_n 3, 1) := by decide +kernel
theorem dX1_setsUpTo_21 : decode cX1_setsUpTo 21 = .ok (.lshl, 1) := by decide +kernel
theorem dX1_setsUpTo_22 : decode cX1_setsUpTo 22 = .ok (.lor, 1) := by decide +kernel
theorem dX1_setsUpTo_23 : decode cX1_setsUpTo 23 = .ok (.lstore_n 1, 1) := by decide +kernel
theorem dX1_setsUpTo_24 : decode cX1_setsUpTo 24 = .ok (.iinc 3 1, 3) := by decide +kernel
theorem dX1_setsUpTo_27 : decode cX1_setsUpTo 27 = .ok (.goto (-23), 3) := by decide +kernel
theorem dX1_setsUpTo_30 : decode cX1_setsUpTo 30 = .ok (.lload_n 1, 1) := by decide +kernel
theorem dX1_setsUpTo_31 : decode cX1_setsUpTo 31 = .ok (.lreturn, 1) := by decide +kernel
set_option maxRecDepth 20000 in
theorem ggX1_reckon_X4_ofCarrying : GoodIn wsX1_reckon wsX4_ofCarrying := goodIn_r _ [13, 14, 77, 78, 79] (by decide +kernel) (by decide +kernel)
set_option maxRecDepth 20000 in
theorem gX1_reckon_X4_ofCarrying : GoodIn wsX1_reckon (wsV RX1 51 RX4 yX4_ofCarrying wsX4_ofCarrying) := goodIn_app (goodIn_of _ (by decide +kernel)) ggX1_reckon_X4_ofCarrying
set_option maxRecDepth 20000 in
theorem ggX1_reckon_J7_fill_53178 : GoodIn wsX1_reckon wsJ7_fill_53178 := goodIn_r _ [18] (by decide +kernel) (by decide +kernel)
set_option maxRecDepth 20000 in
theorem gX1_reckon_J7_fill_53178 : GoodIn wsX1_reckon (va_wsS RX1 85 yJ7_fill_53178 wsJ7_fill_53178) := goodIn_app (goodIn_of _ (by decide +kernel)) ggX1_reckon_J7_fill_53178
set_option maxRecDepth 20000 in
theorem ggX1_reckon_X1_costOfStep : GoodIn wsX1_reckon wsX1_costOfStep := goodIn_r _ [23, 5, 6, 7, 8, 24, 25, 26, 27, 28, 29, 30, 31, 32, 22, 33, 34, 4, 1, 35, 36, 37, 38, 39, 40, 41, 42, 43, 44, 45, 46, 47, 48, 49, 50, 51, 52, 53, 54, 55, 56, 57, 58, 59, 60, 61, 62, 63, 64, 65, 66, 67, 68, 12, 69, 70, 71, 75, 76, 72, 73, 74, 80, 81, 82, 83, 84, 85, 86, 77, 78, 79] (by decide +kernel) (by decide +kernel)
set_option maxRecDepth 20000 in
theorem gX1_reckon_X1_costOfStep : GoodIn wsX1_reckon (wsV RX1 97 RX1 yX1_costOfStep wsX1_costOfStep) := goodIn_app (goodIn_of _ (by decide +kernel)) ggX1_reckon_X1_costOfStep
theorem dX1_reckon_0 : decode cX1_reckon 0 = .ok (.aload_n 0, 1) := by decide +kernel
theorem dX1_reckon_1 : decode cX1_reckon 1 = .ok (.getfield 19, 3) := by decide +kernel
theorem dX1_reckon_4 : decode cX1_reckon 4 = .ok (.iload_n 3, 1) := by decide +kernel
theorem dX1_reckon_5 : decode cX1_reckon 5 = .ok (.invokevirtual 51, 3) := by decide +kernel
theorem dX1_reckon_8 : decode cX1_reckon 8 = .ok (.istore 4, 2) := by decide +kernel
theorem dX1_reckon_10 : decode cX1_reckon 10 = .ok (.aload_n 0, 1) := by decide +kernel
theorem dX1_reckon_11 : decode cX1_reckon 11 = .ok (.getfield 9, 3) := by decide +kernel
theorem dX1_reckon_14 : decode cX1_reckon 14 = .ok (.iconst 0, 1) := by decide +kernel
theorem dX1_reckon_15 : decode cX1_reckon 15 = .ok (.invokestatic 85, 3) := by decide +kernel
theorem dX1_reckon_18 : decode cX1_reckon 18 = .ok (.iconst 0, 1) := by decide +kernel
theorem dX1_reckon_19 : decode cX1_reckon 19 = .ok (.istore 5, 2) := by decide +kernel
theorem dX1_reckon_21 : decode cX1_reckon 21 = .ok (.aload_n 1, 1) := by decide +kernel
theorem dX1_reckon_22 : decode cX1_reckon 22 = .ok (.getfield 29, 3) := by decide +kernel
theorem dX1_reckon_25 : decode cX1_reckon 25 = .ok (.iconst 1, 1) := by decide +kernel
theorem dX1_reckon_26 : decode cX1_reckon 26 = .ok (.isub, 1) := by decide +kernel
theorem dX1_reckon_27 : decode cX1_reckon 27 = .ok (.istore 6, 2) := by decide +kernel
theorem dX1_reckon_29 : decode cX1_reckon 29 = .ok (.iload 6, 2) := by decide +kernel
theorem dX1_reckon_31 : decode cX1_reckon 31 = .ok (.ifCond .lt 103, 3) := by decide +kernel
theorem dX1_reckon_34 : decode cX1_reckon 34 = .ok (.ldc 91, 2) := by decide +kernel
theorem dX1_reckon_36 : decode cX1_reckon 36 = .ok (.istore 7, 2) := by decide +kernel
theorem dX1_reckon_38 : decode cX1_reckon 38 = .ok (.iconst 0, 1) := by decide +kernel
theorem dX1_reckon_39 : decode cX1_reckon 39 = .ok (.istore 8, 2) := by decide +kernel
theorem dX1_reckon_41 : decode cX1_reckon 41 = .ok (.iload 8, 2) := by decide +kernel
theorem dX1_reckon_43 : decode cX1_reckon 43 = .ok (.bipush 6, 2) := by decide +kernel
theorem dX1_reckon_45 : decode cX1_reckon 45 = .ok (.if_icmp .ge 79, 3) := by decide +kernel
theorem dX1_reckon_48 : decode cX1_reckon 48 = .ok (.iload 6, 2) := by decide +kernel
theorem dX1_reckon_50 : decode cX1_reckon 50 = .ok (.bipush 6, 2) := by decide +kernel
theorem dX1_reckon_52 : decode cX1_reckon 52 = .ok (.imul, 1) := by decide +kernel
theorem dX1_reckon_53 : decode cX1_reckon 53 = .ok (.iload 8, 2) := by decide +kernel
theorem dX1_reckon_55 : decode cX1_reckon 55 = .ok (.iadd, 1) := by decide +kernel
theorem dX1_reckon_56 : decode cX1_reckon 56 = .ok (.istore 9, 2) := by decide +kernel
theorem dX1_reckon_58 : decode cX1_reckon 58 = .ok (.aload_n 0, 1) := by decide +kernel
theorem dX1_reckon_59 : decode cX1_reckon 59 = .ok (.getfield 9, 3) := by decide +kernel
theorem dX1_reckon_62 : decode cX1_reckon 62 = .ok (.iload 9, 2) := by decide +kernel
theorem dX1_reckon_64 : decode cX1_reckon 64 = .ok (.bipush 6, 2) := by decide +kernel
theorem dX1_reckon_66 : decode cX1_reckon 66 = .ok (.iadd, 1) := by decide +kernel
theorem dX1_reckon_67 : decode cX1_reckon 67 = .ok (.iaload, 1) := by decide +kernel
theorem dX1_reckon_68 : decode cX1_reckon 68 = .ok (.iload 5, 2) := by decide +kernel
theorem dX1_reckon_70 : decode cX1_reckon 70 = .ok (.iload 4, 2) := by decide +kernel
theorem dX1_reckon_72 : decode cX1_reckon 72 = .ok (.iadd, 1) := by decide +kernel
theorem dX1_reckon_73 : decode cX1_reckon 73 = .ok (.invokestatic 92, 3) := by decide +kernel
theorem dX1_reckon_76 : decode cX1_reckon 76 = .ok (.istore 10, 2) := by decide +kernel
theorem dX1_reckon_78 : decode cX1_reckon 78 = .ok (.aload_n 0, 1) := by decide +kernel
theorem dX1_reckon_79 : decode cX1_reckon 79 = .ok (.getfield 9, 3) := by decide +kernel
theorem dX1_reckon_82 : decode cX1_reckon 82 = .ok (.iload 9, 2) := by decide +kernel
theorem dX1_reckon_84 : decode cX1_reckon 84 = .ok (.ldc 91, 2) := by decide +kernel
theorem dX1_reckon_86 : decode cX1_reckon 86 = .ok (.aload_n 0, 1) := by decide +kernel
theorem dX1_reckon_87 : decode cX1_reckon 87 = .ok (.aload_n 1, 1) := by decide +kernel
theorem dX1_reckon_88 : decode cX1_reckon 88 = .ok (.iload 6, 2) := by decide +kernel
theorem dX1_reckon_90 : decode cX1_reckon 90 = .ok (.iload 8, 2) := by decide +kernel
theorem dX1_reckon_92 : decode cX1_reckon 92 = .ok (.iload_n 2, 1) := by decide +kernel
theorem dX1_reckon_93 : decode cX1_reckon 93 = .ok (.iload_n 3, 1) := by decide +kernel
theorem dX1_reckon_94 : decode cX1_reckon 94 = .ok (.invokevirtual 97, 3) := by decide +kernel
theorem dX1_reckon_97 : decode cX1_reckon 97 = .ok (.iload 10, 2) := by decide +kernel
theorem dX1_reckon_99 : decode cX1_reckon 99 = .ok (.iadd, 1) := by decide +kernel
theorem dX1_reckon_100 : decode cX1_reckon 100 = .ok (.invokestatic 92, 3) := by decide +kernel
theorem dX1_reckon_103 : decode cX1_reckon 103 = .ok (.iastore, 1) := by decide +kernel
theorem dX1_reckon_104 : decode cX1_reckon 104 = .ok (.iload 7, 2) := by decide +kernel
theorem dX1_reckon_106 : decode cX1_reckon 106 = .ok (.aload_n 0, 1) := by decide +kernel
theorem dX1_reckon_107 : decode cX1_reckon 107 = .ok (.getfield 9, 3) := by decide +kernel
theorem dX1_reckon_110 : decode cX1_reckon 110 = .ok (.iload 9, 2) := by decide +kernel
theorem dX1_reckon_112 : decode cX1_reckon 112 = .ok (.iaload, 1) := by decide +kernel
theorem dX1_reckon_113 : decode cX1_reckon 113 = .ok (.invokestatic 92, 3) := by decide +kernel
theorem dX1_reckon_116 : decode cX1_reckon 116 = .ok (.istore 7, 2) := by decide +kernel
theorem dX1_reckon_118 : decode cX1_reckon 118 = .ok (.iinc 8 1, 3) := by decide +kernel
theorem dX1_reckon_121 : decode cX1_reckon 121 = .ok (.goto (-80), 3) := by decide +kernel
theorem dX1_reckon_124 : decode cX1_reckon 124 = .ok (.iload 7, 2) := by decide +kernel
theorem dX1_reckon_126 : decode cX1_reckon 126 = .ok (.istore 5, 2) := by decide +kernel
theorem dX1_reckon_128 : decode cX1_reckon 128 = .ok (.iinc 6 (-1), 3) := by decide +kernel
theorem dX1_reckon_131 : decode cX1_reckon 131 = .ok (.goto (-102), 3) := by decide +kernel
theorem dX1_reckon_134 : decode cX1_reckon 134 = .ok (.iload 5, 2) := by decide +kernel
theorem dX1_reckon_136 : decode cX1_reckon 136 = .ok (.ireturn, 1) := by decide +kernel
set_option maxRecDepth 20000 in
theorem ggX1_costOfStep_X6_workAt : GoodIn wsX1_costOfStep wsX6_workAt := goodIn_r _ [9, 10, 57, 58] (by decide +kernel) (by decide +kernel)
set_option maxRecDepth 20000 in
theorem gX1_costOfStep_X6_workAt : GoodIn wsX1_costOfStep (wsV RX1 23 RX6 yX6_workAt wsX6_workAt) := goodIn_app (goodIn_of _ (by decide +kernel)) ggX1_costOfStep_X6_workAt
set_option maxRecDepth 20000 in
theorem ggX1_costOfStep_X1_costOfWork : GoodIn wsX1_costOfStep wsX1_costOfWork := goodIn_r _ [15, 16, 17, 18, 19, 20, 21, 22, 23, 24, 25, 26, 27, 28, 29, 30, 31, 32, 33, 34, 35, 36, 37, 38, 39, 40, 41, 42, 43, 44, 45, 46, 47, 48, 49, 50, 51, 52, 53, 54, 55, 56, 59, 60, 61, 62, 63, 64, 65, 66, 67, 68, 69, 70, 71] (by decide +kernel) (by decide +kernel)
set_option maxRecDepth 20000 in
theorem gX1_costOfStep_X1_costOfWork : GoodIn wsX1_costOfStep (wsV RX1 101 RX1 yX1_costOfWork wsX1_costOfWork) := goodIn_app (goodIn_of _ (by decide +kernel)) ggX1_costOfStep_X1_costOfWork
theorem dX1_costOfStep_0 : decode cX1_costOfStep 0 = .ok (.aload_n 0, 1) := by decide +kernel
theorem dX1_costOfStep_1 : decode cX1_costOfStep 1 = .ok (.aload_n 1, 1) := by decide +kernel
theorem dX1_costOfStep_2 : decode cX1_costOfStep 2 = .ok (.iload_n 2, 1) := by decide +kernel
theorem dX1_costOfStep_3 : decode cX1_costOfStep 3 = .ok (.iconst 0, 1) := by decide +kernel
theorem dX1_costOfStep_4 : decode cX1_costOfStep 4 = .ok (.invokevirtual 23, 3) := by decide +kernel
theorem dX1_costOfStep_7 : decode cX1_costOfStep 7 = .ok (.iload_n 3, 1) := by decide +kernel
theorem dX1_costOfStep_8 : decode cX1_costOfStep 8 = .ok (.iload 4, 2) := by decide +kernel
theorem dX1_costOfStep_10 : decode cX1_costOfStep 10 = .ok (.iload 5, 2) := by decide +kernel
theorem dX1_costOfStep_12 : decode cX1_costOfStep 12 = .ok (.invokevirtual 101, 3) := by decide +kernel
theorem dX1_costOfStep_15 : decode cX1_costOfStep 15 = .ok (.aload_n 0, 1) := by decide +kernel
theorem dX1_costOfStep_16 : decode cX1_costOfStep 16 = .ok (.aload_n 1, 1) := by decide +kernel
theorem dX1_costOfStep_17 : decode cX1_costOfStep 17 = .ok (.iload_n 2, 1) := by decide +kernel
theorem dX1_costOfStep_18 : decode cX1_costOfStep 18 = .ok (.iconst 1, 1) := by decide +kernel
theorem dX1_costOfStep_19 : decode cX1_costOfStep 19 = .ok (.invokevirtual 23, 3) := by decide +kernel
theorem dX1_costOfStep_22 : decode cX1_costOfStep 22 = .ok (.iload_n 3, 1) := by decide +kernel
theorem dX1_costOfStep_23 : decode cX1_costOfStep 23 = .ok (.iload 4, 2) := by decide +kernel
theorem dX1_costOfStep_25 : decode cX1_costOfStep 25 = .ok (.iload 5, 2) := by decide +kernel
theorem dX1_costOfStep_27 : decode cX1_costOfStep 27 = .ok (.invokevirtual 101, 3) := by decide +kernel
theorem dX1_costOfStep_30 : decode cX1_costOfStep 30 = .ok (.invokestatic 92, 3) := by decide +kernel
theorem dX1_costOfStep_33 : decode cX1_costOfStep 33 = .ok (.ireturn, 1) := by decide +kernel
set_option maxRecDepth 20000 in
theorem ggX1_costOfWork_X0_handsFor : GoodIn wsX1_costOfWork wsX0_handsFor := goodIn_r _ [8, 9, 10, 11, 7, 12, 13, 14, 15, 16, 17, 18, 19, 20, 21, 22, 23, 24, 25, 26, 27, 28, 29, 30, 31, 32, 33, 34, 45, 46, 47, 48, 49, 50, 51] (by decide +kernel) (by decide +kernel)
set_option maxRecDepth 20000 in
theorem gX1_costOfWork_X0_handsFor : GoodIn wsX1_costOfWork (wsV RX1 40 RX0 yX0_handsFor wsX0_handsFor) := goodIn_app (goodIn_of _ (by decide +kernel)) ggX1_costOfWork_X0_handsFor
set_option maxRecDepth 20000 in
theorem ggX1_costOfWork_X4_ofWork : GoodIn wsX1_costOfWork wsX4_ofWork := goodIn_r _ [39, 40, 41, 52, 53, 54] (by decide +kernel) (by decide +kernel)
set_option maxRecDepth 20000 in
theorem gX1_costOfWork_X4_ofWork : GoodIn wsX1_costOfWork (wsV RX1 45 RX4 yX4_ofWork wsX4_ofWork) := goodIn_app (goodIn_of _ (by decide +kernel)) ggX1_costOfWork_X4_ofWork
theorem dX1_costOfWork_0 : decode cX1_costOfWork 0 = .ok (.iload_n 1, 1) := by decide +kernel
theorem dX1_costOfWork_1 : decode cX1_costOfWork 1 = .ok (.iconst (-1), 1) := by decide +kernel
theorem dX1_costOfWork_2 : decode cX1_costOfWork 2 = .ok (.if_icmp .ne 7, 3) := by decide +kernel
theorem dX1_costOfWork_5 : decode cX1_costOfWork 5 = .ok (.iconst 0, 1) := by decide +kernel
theorem dX1_costOfWork_6 : decode cX1_costOfWork 6 = .ok (.goto 12, 3) := by decide +kernel
theorem dX1_costOfWork_9 : decode cX1_costOfWork 9 = .ok (.aload_n 0, 1) := by decide +kernel
theorem dX1_costOfWork_10 : decode cX1_costOfWork 10 = .ok (.getfield 15, 3) := by decide +kernel
theorem dX1_costOfWork_13 : decode cX1_costOfWork 13 = .ok (.iload_n 2, 1) := by decide +kernel
theorem dX1_costOfWork_14 : decode cX1_costOfWork 14 = .ok (.iload_n 1, 1) := by decide +kernel
theorem dX1_costOfWork_15 : decode cX1_costOfWork 15 = .ok (.invokevirtual 40, 3) := by decide +kernel
theorem dX1_costOfWork_18 : decode cX1_costOfWork 18 = .ok (.istore 5, 2) := by decide +kernel
theorem dX1_costOfWork_20 : decode cX1_costOfWork 20 = .ok (.iload 5, 2) := by decide +kernel
theorem dX1_costOfWork_22 : decode cX1_costOfWork 22 = .ok (.ifCond .eq 12, 3) := by decide +kernel
theorem dX1_costOfWork_25 : decode cX1_costOfWork 25 = .ok (.iload 5, 2) := by decide +kernel
theorem dX1_costOfWork_27 : decode cX1_costOfWork 27 = .ok (.iload_n 3, 1) := by decide +kernel
theorem dX1_costOfWork_28 : decode cX1_costOfWork 28 = .ok (.iconst (-1), 1) := by decide +kernel
theorem dX1_costOfWork_29 : decode cX1_costOfWork 29 = .ok (.ixor, 1) := by decide +kernel
theorem dX1_costOfWork_30 : decode cX1_costOfWork 30 = .ok (.iand, 1) := by decide +kernel
theorem dX1_costOfWork_31 : decode cX1_costOfWork 31 = .ok (.ifCond .eq 8, 3) := by decide +kernel
theorem dX1_costOfWork_34 : decode cX1_costOfWork 34 = .ok (.ldc 91, 2) := by decide +kernel
theorem dX1_costOfWork_36 : decode cX1_costOfWork 36 = .ok (.goto 14, 3) := by decide +kernel
theorem dX1_costOfWork_39 : decode cX1_costOfWork 39 = .ok (.aload_n 0, 1) := by decide +kernel
theorem dX1_costOfWork_40 : decode cX1_costOfWork 40 = .ok (.getfield 19, 3) := by decide +kernel
theorem dX1_costOfWork_43 : decode cX1_costOfWork 43 = .ok (.iload_n 2, 1) := by decide +kernel
theorem dX1_costOfWork_44 : decode cX1_costOfWork 44 = .ok (.iload_n 1, 1) := by decide +kernel
theorem dX1_costOfWork_45 : decode cX1_costOfWork 45 = .ok (.iload 4, 2) := by decide +kernel
theorem dX1_costOfWork_47 : decode cX1_costOfWork 47 = .ok (.invokevirtual 45, 3) := by decide +kernel
theorem dX1_costOfWork_50 : decode cX1_costOfWork 50 = .ok (.ireturn, 1) := by decide +kernel
set_option maxRecDepth 20000 in
theorem ggX1_cheapestGuild_X1_firstGuildAt : GoodIn wsX1_cheapestGuild wsX1_firstGuildAt := goodIn_r _ [6, 7, 8, 1, 67, 68, 69, 70, 71, 72] (by decide +kernel) (by decide +kernel)
set_option maxRecDepth 20000 in
theorem gX1_cheapestGuild_X1_firstGuildAt : GoodIn wsX1_cheapestGuild (wsV RX1 105 RX1 yX1_firstGuildAt wsX1_firstGuildAt) := goodIn_app (goodIn_of _ (by decide +kernel)) ggX1_cheapestGuild_X1_firstGuildAt
set_option maxRecDepth 20000 in
theorem ggX1_cheapestGuild_X1_costOfStep : GoodIn wsX1_cheapestGuild wsX1_costOfStep := goodIn_r _ [12, 13, 14, 15, 16, 17, 18, 19, 20, 21, 22, 23, 24, 25, 5, 26, 27, 28, 7, 29, 30, 31, 32, 33, 34, 35, 36, 37, 38, 39, 40, 41, 42, 43, 44, 45, 46, 47, 48, 49, 50, 51, 52, 53, 54, 55, 56, 57, 58, 59, 60, 61, 62, 63, 64, 65, 66, 73, 74, 67, 68, 69, 75, 76, 77, 78, 79, 80, 81, 70, 71, 72] (by decide +kernel) (by decide +kernel)
set_option maxRecDepth 20000 in
theorem gX1_cheapestGuild_X1_costOfStep : GoodIn wsX1_cheapestGuild (wsV RX1 97 RX1 yX1_costOfStep wsX1_costOfStep) := goodIn_app (goodIn_of _ (by decide +kernel)) ggX1_cheapestGuild_X1_costOfStep
theorem dX1_cheapestGuild_0 : decode cX1_cheapestGuild 0 = .ok (.iload 4, 2) := by decide +kernel
theorem dX1_cheapestGuild_2 : decode cX1_cheapestGuild 2 = .ok (.istore 5, 2) := by decide +kernel
theorem dX1_cheapestGuild_4 : decode cX1_cheapestGuild 4 = .ok (.iconst (-1), 1) := by decide +kernel
theorem dX1_cheapestGuild_5 : decode cX1_cheapestGuild 5 = .ok (.istore 6, 2) := by decide +kernel
theorem dX1_cheapestGuild_7 : decode cX1_cheapestGuild 7 = .ok (.iconst 0, 1) := by decide +kernel
theorem dX1_cheapestGuild_8 : decode cX1_cheapestGuild 8 = .ok (.istore 7, 2) := by decide +kernel
theorem dX1_cheapestGuild_10 : decode cX1_cheapestGuild 10 = .ok (.iload 7, 2) := by decide +kernel
theorem dX1_cheapestGuild_12 : decode cX1_cheapestGuild 12 = .ok (.iload_n 3, 1) := by decide +kernel
theorem dX1_cheapestGuild_13 : decode cX1_cheapestGuild 13 = .ok (.if_icmp .gt 56, 3) := by decide +kernel
theorem dX1_cheapestGuild_16 : decode cX1_cheapestGuild 16 = .ok (.aload_n 0, 1) := by decide +kernel
theorem dX1_cheapestGuild_17 : decode cX1_cheapestGuild 17 = .ok (.iload 7, 2) := by decide +kernel
theorem dX1_cheapestGuild_19 : decode cX1_cheapestGuild 19 = .ok (.iload 6, 2) := by decide +kernel
theorem dX1_cheapestGuild_21 : decode cX1_cheapestGuild 21 = .ok (.iload 5, 2) := by decide +kernel
theorem dX1_cheapestGuild_23 : decode cX1_cheapestGuild 23 = .ok (.invokevirtual 105, 3) := by decide +kernel
theorem dX1_cheapestGuild_26 : decode cX1_cheapestGuild 26 = .ok (.istore 6, 2) := by decide +kernel
theorem dX1_cheapestGuild_28 : decode cX1_cheapestGuild 28 = .ok (.iload 6, 2) := by decide +kernel
theorem dX1_cheapestGuild_30 : decode cX1_cheapestGuild 30 = .ok (.iconst (-1), 1) := by decide +kernel
theorem dX1_cheapestGuild_31 : decode cX1_cheapestGuild 31 = .ok (.if_icmp .ne 5, 3) := by decide +kernel
theorem dX1_cheapestGuild_34 : decode cX1_cheapestGuild 34 = .ok (.iconst (-1), 1) := by decide +kernel
theorem dX1_cheapestGuild_35 : decode cX1_cheapestGuild 35 = .ok (.ireturn, 1) := by decide +kernel
theorem dX1_cheapestGuild_36 : decode cX1_cheapestGuild 36 = .ok (.aload_n 0, 1) := by decide +kernel
theorem dX1_cheapestGuild_37 : decode cX1_cheapestGuild 37 = .ok (.getfield 9, 3) := by decide +kernel
theorem dX1_cheapestGuild_40 : decode cX1_cheapestGuild 40 = .ok (.iload 7, 2) := by decide +kernel
theorem dX1_cheapestGuild_42 : decode cX1_cheapestGuild 42 = .ok (.bipush 6, 2) := by decide +kernel
theorem dX1_cheapestGuild_44 : decode cX1_cheapestGuild 44 = .ok (.imul, 1) := by decide +kernel
theorem dX1_cheapestGuild_45 : decode cX1_cheapestGuild 45 = .ok (.iload 6, 2) := by decide +kernel
theorem dX1_cheapestGuild_47 : decode cX1_cheapestGuild 47 = .ok (.iadd, 1) := by decide +kernel
theorem dX1_cheapestGuild_48 : decode cX1_cheapestGuild 48 = .ok (.iaload, 1) := by decide +kernel
theorem dX1_cheapestGuild_49 : decode cX1_cheapestGuild 49 = .ok (.aload_n 0, 1) := by decide +kernel
theorem dX1_cheapestGuild_50 : decode cX1_cheapestGuild 50 = .ok (.aload_n 1, 1) := by decide +kernel
theorem dX1_cheapestGuild_51 : decode cX1_cheapestGuild 51 = .ok (.iload 7, 2) := by decide +kernel
theorem dX1_cheapestGuild_53 : decode cX1_cheapestGuild 53 = .ok (.iload 6, 2) := by decide +kernel
theorem dX1_cheapestGuild_55 : decode cX1_cheapestGuild 55 = .ok (.iload_n 2, 1) := by decide +kernel
theorem dX1_cheapestGuild_56 : decode cX1_cheapestGuild 56 = .ok (.iconst 0, 1) := by decide +kernel
theorem dX1_cheapestGuild_57 : decode cX1_cheapestGuild 57 = .ok (.invokevirtual 97, 3) := by decide +kernel
theorem dX1_cheapestGuild_60 : decode cX1_cheapestGuild 60 = .ok (.isub, 1) := by decide +kernel
theorem dX1_cheapestGuild_61 : decode cX1_cheapestGuild 61 = .ok (.istore 5, 2) := by decide +kernel
theorem dX1_cheapestGuild_63 : decode cX1_cheapestGuild 63 = .ok (.iinc 7 1, 3) := by decide +kernel
theorem dX1_cheapestGuild_66 : decode cX1_cheapestGuild 66 = .ok (.goto (-56), 3) := by decide +kernel
theorem dX1_cheapestGuild_69 : decode cX1_cheapestGuild 69 = .ok (.iload 6, 2) := by decide +kernel
theorem dX1_cheapestGuild_71 : decode cX1_cheapestGuild 71 = .ok (.ireturn, 1) := by decide +kernel
theorem dX1_firstGuildAt_0 : decode cX1_firstGuildAt 0 = .ok (.iconst 0, 1) := by decide +kernel
theorem dX1_firstGuildAt_1 : decode cX1_firstGuildAt 1 = .ok (.istore 4, 2) := by decide +kernel
theorem dX1_firstGuildAt_3 : decode cX1_firstGuildAt 3 = .ok (.iload 4, 2) := by decide +kernel
theorem dX1_firstGuildAt_5 : decode cX1_firstGuildAt 5 = .ok (.bipush 6, 2) := by decide +kernel
theorem dX1_firstGuildAt_7 : decode cX1_firstGuildAt 7 = .ok (.if_icmp .ge 55, 3) := by decide +kernel
theorem dX1_firstGuildAt_10 : decode cX1_firstGuildAt 10 = .ok (.iload_n 2, 1) := by decide +kernel
theorem dX1_firstGuildAt_11 : decode cX1_firstGuildAt 11 = .ok (.iconst (-1), 1) := by decide +kernel
theorem dX1_firstGuildAt_12 : decode cX1_firstGuildAt 12 = .ok (.if_icmp .eq 9, 3) := by decide +kernel
theorem dX1_firstGuildAt_15 : decode cX1_firstGuildAt 15 = .ok (.iload_n 2, 1) := by decide +kernel
theorem dX1_firstGuildAt_16 : decode cX1_firstGuildAt 16 = .ok (.iload 4, 2) := by decide +kernel
theorem dX1_firstGuildAt_18 : decode cX1_firstGuildAt 18 = .ok (.if_icmp .ne 7, 3) := by decide +kernel
theorem dX1_firstGuildAt_21 : decode cX1_firstGuildAt 21 = .ok (.iconst 0, 1) := by decide +kernel
theorem dX1_firstGuildAt_22 : decode cX1_firstGuildAt 22 = .ok (.goto 10, 3) := by decide +kernel
theorem dX1_firstGuildAt_25 : decode cX1_firstGuildAt 25 = .ok (.aload_n 0, 1) := by decide +kernel
theorem dX1_firstGuildAt_26 : decode cX1_firstGuildAt 26 = .ok (.getfield 19, 3) := by decide +kernel
theorem dX1_firstGuildAt_29 : decode cX1_firstGuildAt 29 = .ok (.getfield 108, 3) := by decide +kernel
theorem dX1_firstGuildAt_32 : decode cX1_firstGuildAt 32 = .ok (.istore 5, 2) := by decide +kernel
theorem dX1_firstGuildAt_34 : decode cX1_firstGuildAt 34 = .ok (.aload_n 0, 1) := by decide +kernel
theorem dX1_firstGuildAt_35 : decode cX1_firstGuildAt 35 = .ok (.getfield 9, 3) := by decide +kernel
theorem dX1_firstGuildAt_38 : decode cX1_firstGuildAt 38 = .ok (.iload_n 1, 1) := by decide +kernel
theorem dX1_firstGuildAt_39 : decode cX1_firstGuildAt 39 = .ok (.bipush 6, 2) := by decide +kernel
theorem dX1_firstGuildAt_41 : decode cX1_firstGuildAt 41 = .ok (.imul, 1) := by decide +kernel
theorem dX1_firstGuildAt_42 : decode cX1_firstGuildAt 42 = .ok (.iload 4, 2) := by decide +kernel
theorem dX1_firstGuildAt_44 : decode cX1_firstGuildAt 44 = .ok (.iadd, 1) := by decide +kernel
theorem dX1_firstGuildAt_45 : decode cX1_firstGuildAt 45 = .ok (.iaload, 1) := by decide +kernel
theorem dX1_firstGuildAt_46 : decode cX1_firstGuildAt 46 = .ok (.iload 5, 2) := by decide +kernel
theorem dX1_firstGuildAt_48 : decode cX1_firstGuildAt 48 = .ok (.iadd, 1) := by decide +kernel
theorem dX1_firstGuildAt_49 : decode cX1_firstGuildAt 49 = .ok (.iload_n 3, 1) := by decide +kernel
theorem dX1_firstGuildAt_50 : decode cX1_firstGuildAt 50 = .ok (.if_icmp .ne 6, 3) := by decide +kernel
theorem dX1_firstGuildAt_53 : decode cX1_firstGuildAt 53 = .ok (.iload 4, 2) := by decide +kernel
theorem dX1_firstGuildAt_55 : decode cX1_firstGuildAt 55 = .ok (.ireturn, 1) := by decide +kernel
theorem dX1_firstGuildAt_56 : decode cX1_firstGuildAt 56 = .ok (.iinc 4 1, 3) := by decide +kernel
theorem dX1_firstGuildAt_59 : decode cX1_firstGuildAt 59 = .ok (.goto (-56), 3) := by decide +kernel
theorem dX1_firstGuildAt_62 : decode cX1_firstGuildAt 62 = .ok (.iconst (-1), 1) := by decide +kernel
theorem dX1_firstGuildAt_63 : decode cX1_firstGuildAt 63 = .ok (.ireturn, 1) := by decide +kernel
set_option maxRecDepth 20000 in
theorem ggX1_cheapestChoice_X6_workAt : GoodIn wsX1_cheapestChoice wsX6_workAt := goodIn_r _ [5, 6, 53, 54] (by decide +kernel) (by decide +kernel)
set_option maxRecDepth 20000 in
theorem gX1_cheapestChoice_X6_workAt : GoodIn wsX1_cheapestChoice (wsV RX1 23 RX6 yX6_workAt wsX6_workAt) := goodIn_app (goodIn_of _ (by decide +kernel)) ggX1_cheapestChoice_X6_workAt
set_option maxRecDepth 20000 in
theorem ggX1_cheapestChoice_X1_costOfWork : GoodIn wsX1_cheapestChoice wsX1_costOfWork := goodIn_r _ [11, 12, 13, 14, 15, 16, 17, 18, 19, 20, 21, 22, 23, 24, 25, 26, 27, 28, 29, 30, 31, 32, 33, 34, 35, 36, 37, 38, 39, 40, 41, 42, 43, 44, 45, 46, 47, 48, 49, 50, 51, 52, 55, 56, 57, 58, 59, 60, 61, 62, 63, 64, 65, 66, 67] (by decide +kernel) (by decide +kernel)
set_option maxRecDepth 20000 in
theorem gX1_cheapestChoice_X1_costOfWork : GoodIn wsX1_cheapestChoice (wsV RX1 101 RX1 yX1_costOfWork wsX1_costOfWork) := goodIn_app (goodIn_of _ (by decide +kernel)) ggX1_cheapestChoice_X1_costOfWork
theorem dX1_cheapestChoice_0 : decode cX1_cheapestChoice 0 = .ok (.aload_n 0, 1) := by decide +kernel
theorem dX1_cheapestChoice_1 : decode cX1_cheapestChoice 1 = .ok (.aload_n 1, 1) := by decide +kernel
theorem dX1_cheapestChoice_2 : decode cX1_cheapestChoice 2 = .ok (.iload_n 3, 1) := by decide +kernel
theorem dX1_cheapestChoice_3 : decode cX1_cheapestChoice 3 = .ok (.iconst 0, 1) := by decide +kernel
theorem dX1_cheapestChoice_4 : decode cX1_cheapestChoice 4 = .ok (.invokevirtual 23, 3) := by decide +kernel
theorem dX1_cheapestChoice_7 : decode cX1_cheapestChoice 7 = .ok (.iload 4, 2) := by decide +kernel
theorem dX1_cheapestChoice_9 : decode cX1_cheapestChoice 9 = .ok (.iload_n 2, 1) := by decide +kernel
theorem dX1_cheapestChoice_10 : decode cX1_cheapestChoice 10 = .ok (.iconst 0, 1) := by decide +kernel
theorem dX1_cheapestChoice_11 : decode cX1_cheapestChoice 11 = .ok (.invokevirtual 101, 3) := by decide +kernel
theorem dX1_cheapestChoice_14 : decode cX1_cheapestChoice 14 = .ok (.istore 5, 2) := by decide +kernel
theorem dX1_cheapestChoice_16 : decode cX1_cheapestChoice 16 = .ok (.aload_n 0, 1) := by decide +kernel
theorem dX1_cheapestChoice_17 : decode cX1_cheapestChoice 17 = .ok (.aload_n 1, 1) := by decide +kernel
theorem dX1_cheapestChoice_18 : decode cX1_cheapestChoice 18 = .ok (.iload_n 3, 1) := by decide +kernel
theorem dX1_cheapestChoice_19 : decode cX1_cheapestChoice 19 = .ok (.iconst 1, 1) := by decide +kernel
theorem dX1_cheapestChoice_20 : decode cX1_cheapestChoice 20 = .ok (.invokevirtual 23, 3) := by decide +kernel
theorem dX1_cheapestChoice_23 : decode cX1_cheapestChoice 23 = .ok (.iload 4, 2) := by decide +kernel
theorem dX1_cheapestChoice_25 : decode cX1_cheapestChoice 25 = .ok (.iload_n 2, 1) := by decide +kernel
theorem dX1_cheapestChoice_26 : decode cX1_cheapestChoice 26 = .ok (.iconst 0, 1) := by decide +kernel
theorem dX1_cheapestChoice_27 : decode cX1_cheapestChoice 27 = .ok (.invokevirtual 101, 3) := by decide +kernel
theorem dX1_cheapestChoice_30 : decode cX1_cheapestChoice 30 = .ok (.istore 6, 2) := by decide +kernel
theorem dX1_cheapestChoice_32 : decode cX1_cheapestChoice 32 = .ok (.iload 6, 2) := by decide +kernel
theorem dX1_cheapestChoice_34 : decode cX1_cheapestChoice 34 = .ok (.iload 5, 2) := by decide +kernel
theorem dX1_cheapestChoice_36 : decode cX1_cheapestChoice 36 = .ok (.if_icmp .ge 7, 3) := by decide +kernel
theorem dX1_cheapestChoice_39 : decode cX1_cheapestChoice 39 = .ok (.iconst 1, 1) := by decide +kernel
theorem dX1_cheapestChoice_40 : decode cX1_cheapestChoice 40 = .ok (.goto 4, 3) := by decide +kernel
theorem dX1_cheapestChoice_43 : decode cX1_cheapestChoice 43 = .ok (.iconst 0, 1) := by decide +kernel
theorem dX1_cheapestChoice_44 : decode cX1_cheapestChoice 44 = .ok (.ireturn, 1) := by decide +kernel
set_option maxRecDepth 20000 in
theorem ggX1_slyest_X1_makers : GoodIn wsX1_slyest wsX1_makers := goodIn_r _ [11, 2, 12, 13, 14, 10, 15, 1, 16, 17, 18, 19, 20, 21, 22, 23, 24, 25, 26, 27, 28, 29, 30, 31, 32, 33, 34, 35, 36, 37, 38, 39, 40, 41, 42, 43, 44, 45, 46, 47, 48, 49, 50, 51, 52, 53, 74, 75, 76, 77, 78, 79, 80, 81, 82, 83, 84, 85] (by decide +kernel) (by decide +kernel)
set_option maxRecDepth 20000 in
theorem gX1_slyest_X1_makers : GoodIn wsX1_slyest (wsV RX1 72 RX1 yX1_makers wsX1_makers) := goodIn_app (goodIn_of _ (by decide +kernel)) ggX1_slyest_X1_makers
set_option maxRecDepth 20000 in
theorem ggX1_slyest_X1_leastCount : GoodIn wsX1_slyest wsX1_leastCount := goodIn_r _ [56, 57, 58, 10, 59, 60, 61, 43, 62, 63, 64, 65] (by decide +kernel) (by decide +kernel)
set_option maxRecDepth 20000 in
theorem gX1_slyest_X1_leastCount : GoodIn wsX1_slyest (va_wsS RX1 111 yX1_leastCount wsX1_leastCount) := goodIn_app (goodIn_of _ (by decide +kernel)) ggX1_slyest_X1_leastCount
set_option maxRecDepth 20000 in
theorem ggX1_slyest_X1_setsForThing : GoodIn wsX1_slyest wsX1_setsForThing := goodIn_r _ [15, 1, 16, 17, 18, 19, 20, 21, 22, 23, 24, 10, 25, 26, 27, 28, 29, 30, 31, 32, 33, 34, 35, 36, 37, 38, 39, 40, 41, 42, 43, 44, 45, 46, 47, 48, 49, 50, 51, 52, 53, 74, 75, 76, 77, 78, 79, 80, 81, 82, 83, 84, 85] (by decide +kernel) (by decide +kernel)
set_option maxRecDepth 20000 in
theorem gX1_slyest_X1_setsForThing : GoodIn wsX1_slyest (wsV RX1 68 RX1 yX1_setsForThing wsX1_setsForThing) := goodIn_app (goodIn_of _ (by decide +kernel)) ggX1_slyest_X1_setsForThing
set_option maxRecDepth 20000 in
theorem ggX1_slyest_X1_slyestDepth : GoodIn wsX1_slyest wsX1_slyestDepth := goodIn_r _ [69, 70, 71, 72, 5, 73, 3, 4, 6, 16, 17, 18, 19, 20, 21, 22, 23, 24, 10, 25, 26, 27, 28, 29, 30, 31, 32, 33, 34, 35, 36, 37, 38, 39, 40, 41, 42, 43, 44, 45, 46, 47, 48, 49, 50, 51, 52, 53, 54, 55, 56, 57, 58, 59, 60, 61, 62, 63, 64, 65, 74, 75, 76, 77, 78, 79, 80, 81, 82, 83, 84, 85] (by decide +kernel) (by decide +kernel)
set_option maxRecDepth 20000 in
theorem gX1_slyest_X1_slyestDepth : GoodIn wsX1_slyest (wsV RX1 114 RX1 yX1_slyestDepth wsX1_slyestDepth) := goodIn_app (goodIn_of _ (by decide +kernel)) ggX1_slyest_X1_slyestDepth
theorem dX1_slyest_0 : decode cX1_slyest 0 = .ok (.aload_n 0, 1) := by decide +kernel
theorem dX1_slyest_1 : decode cX1_slyest 1 = .ok (.aload_n 1, 1) := by decide +kernel
theorem dX1_slyest_2 : decode cX1_slyest 2 = .ok (.invokevirtual 72, 3) := by decide +kernel
theorem dX1_slyest_5 : decode cX1_slyest 5 = .ok (.invokestatic 111, 3) := by decide +kernel
theorem dX1_slyest_8 : decode cX1_slyest 8 = .ok (.sipush 160, 3) := by decide +kernel
theorem dX1_slyest_11 : decode cX1_slyest 11 = .ok (.imul, 1) := by decide +kernel
theorem dX1_slyest_12 : decode cX1_slyest 12 = .ok (.istore_n 3, 1) := by decide +kernel
theorem dX1_slyest_13 : decode cX1_slyest 13 = .ok (.iload_n 3, 1) := by decide +kernel
theorem dX1_slyest_14 : decode cX1_slyest 14 = .ok (.istore 4, 2) := by decide +kernel
theorem dX1_slyest_16 : decode cX1_slyest 16 = .ok (.iconst 0, 1) := by decide +kernel
theorem dX1_slyest_17 : decode cX1_slyest 17 = .ok (.istore 5, 2) := by decide +kernel
theorem dX1_slyest_19 : decode cX1_slyest 19 = .ok (.iload 5, 2) := by decide +kernel
theorem dX1_slyest_21 : decode cX1_slyest 21 = .ok (.aload_n 1, 1) := by decide +kernel
theorem dX1_slyest_22 : decode cX1_slyest 22 = .ok (.getfield 29, 3) := by decide +kernel
theorem dX1_slyest_25 : decode cX1_slyest 25 = .ok (.if_icmp .ge 56, 3) := by decide +kernel
theorem dX1_slyest_28 : decode cX1_slyest 28 = .ok (.aload_n 0, 1) := by decide +kernel
theorem dX1_slyest_29 : decode cX1_slyest 29 = .ok (.aload_n 1, 1) := by decide +kernel
theorem dX1_slyest_30 : decode cX1_slyest 30 = .ok (.iload 5, 2) := by decide +kernel
theorem dX1_slyest_32 : decode cX1_slyest 32 = .ok (.iconst (-1), 1) := by decide +kernel
theorem dX1_slyest_33 : decode cX1_slyest 33 = .ok (.ldc2_w 66, 3) := by decide +kernel
theorem dX1_slyest_36 : decode cX1_slyest 36 = .ok (.invokevirtual 68, 3) := by decide +kernel
theorem dX1_slyest_39 : decode cX1_slyest 39 = .ok (.lstore 6, 2) := by decide +kernel
theorem dX1_slyest_41 : decode cX1_slyest 41 = .ok (.iconst 0, 1) := by decide +kernel
theorem dX1_slyest_42 : decode cX1_slyest 42 = .ok (.istore 8, 2) := by decide +kernel
theorem dX1_slyest_44 : decode cX1_slyest 44 = .ok (.iload 8, 2) := by decide +kernel
theorem dX1_slyest_46 : decode cX1_slyest 46 = .ok (.iconst 2, 1) := by decide +kernel
theorem dX1_slyest_47 : decode cX1_slyest 47 = .ok (.if_icmp .ge 28, 3) := by decide +kernel
theorem dX1_slyest_50 : decode cX1_slyest 50 = .ok (.iload 4, 2) := by decide +kernel
theorem dX1_slyest_52 : decode cX1_slyest 52 = .ok (.aload_n 0, 1) := by decide +kernel
theorem dX1_slyest_53 : decode cX1_slyest 53 = .ok (.aload_n 1, 1) := by decide +kernel
theorem dX1_slyest_54 : decode cX1_slyest 54 = .ok (.iload 5, 2) := by decide +kernel
theorem dX1_slyest_56 : decode cX1_slyest 56 = .ok (.iload 8, 2) := by decide +kernel
theorem dX1_slyest_58 : decode cX1_slyest 58 = .ok (.iload_n 2, 1) := by decide +kernel
theorem dX1_slyest_59 : decode cX1_slyest 59 = .ok (.lload 6, 2) := by decide +kernel
theorem dX1_slyest_61 : decode cX1_slyest 61 = .ok (.invokevirtual 114, 3) := by decide +kernel
theorem dX1_slyest_64 : decode cX1_slyest 64 = .ok (.invokestatic 92, 3) := by decide +kernel
theorem dX1_slyest_67 : decode cX1_slyest 67 = .ok (.istore 4, 2) := by decide +kernel
theorem dX1_slyest_69 : decode cX1_slyest 69 = .ok (.iinc 8 1, 3) := by decide +kernel
theorem dX1_slyest_72 : decode cX1_slyest 72 = .ok (.goto (-28), 3) := by decide +kernel
theorem dX1_slyest_75 : decode cX1_slyest 75 = .ok (.iinc 5 1, 3) := by decide +kernel
theorem dX1_slyest_78 : decode cX1_slyest 78 = .ok (.goto (-59), 3) := by decide +kernel
theorem dX1_slyest_81 : decode cX1_slyest 81 = .ok (.iload 4, 2) := by decide +kernel
theorem dX1_slyest_83 : decode cX1_slyest 83 = .ok (.iload_n 3, 1) := by decide +kernel
theorem dX1_slyest_84 : decode cX1_slyest 84 = .ok (.if_icmp .ne 7, 3) := by decide +kernel
theorem dX1_slyest_87 : decode cX1_slyest 87 = .ok (.iconst (-1), 1) := by decide +kernel
theorem dX1_slyest_88 : decode cX1_slyest 88 = .ok (.goto 5, 3) := by decide +kernel
theorem dX1_slyest_91 : decode cX1_slyest 91 = .ok (.iload 4, 2) := by decide +kernel
theorem dX1_slyest_93 : decode cX1_slyest 93 = .ok (.ireturn, 1) := by decide +kernel
set_option maxRecDepth 20000 in
theorem ggX1_slyestDepth_X6_workAt : GoodIn wsX1_slyestDepth wsX6_workAt := goodIn_r _ [13, 14, 60, 61] (by decide +kernel) (by decide +kernel)
set_option maxRecDepth 20000 in
theorem gX1_slyestDepth_X6_workAt : GoodIn wsX1_slyestDepth (wsV RX1 23 RX6 yX6_workAt wsX6_workAt) := goodIn_app (goodIn_of _ (by decide +kernel)) ggX1_slyestDepth_X6_workAt
set_option maxRecDepth 20000 in
theorem ggX1_slyestDepth_X1_setsForWork : GoodIn wsX1_slyestDepth wsX1_setsForWork := goodIn_r _ [19, 20, 21, 22, 23, 24, 25, 26, 27, 28, 29, 30, 31, 32, 33, 34, 35, 36, 37, 38, 39, 40, 41, 42, 43, 44, 45, 46, 47, 62, 63, 64, 65, 66, 67, 68, 69, 70, 71] (by decide +kernel) (by decide +kernel)
set_option maxRecDepth 20000 in
theorem gX1_slyestDepth_X1_setsForWork : GoodIn wsX1_slyestDepth (wsV RX1 62 RX1 yX1_setsForWork wsX1_setsForWork) := goodIn_app (goodIn_of _ (by decide +kernel)) ggX1_slyestDepth_X1_setsForWork
set_option maxRecDepth 20000 in
theorem ggX1_slyestDepth_X1_leastCount : GoodIn wsX1_slyestDepth wsX1_leastCount := goodIn_r _ [50, 51, 52, 18, 53, 54, 55, 37, 56, 57, 58, 59] (by decide +kernel) (by decide +kernel)
set_option maxRecDepth 20000 in
theorem gX1_slyestDepth_X1_leastCount : GoodIn wsX1_slyestDepth (va_wsS RX1 111 yX1_leastCount wsX1_leastCount) := goodIn_app (goodIn_of _ (by decide +kernel)) ggX1_slyestDepth_X1_leastCount
theorem dX1_slyestDepth_0 : decode cX1_slyestDepth 0 = .ok (.ldc 91, 2) := by decide +kernel
theorem dX1_slyestDepth_2 : decode cX1_slyestDepth 2 = .ok (.istore 7, 2) := by decide +kernel
theorem dX1_slyestDepth_4 : decode cX1_slyestDepth 4 = .ok (.aload_n 1, 1) := by decide +kernel
theorem dX1_slyestDepth_5 : decode cX1_slyestDepth 5 = .ok (.iload_n 2, 1) := by decide +kernel
theorem dX1_slyestDepth_6 : decode cX1_slyestDepth 6 = .ok (.iload_n 3, 1) := by decide +kernel
theorem dX1_slyestDepth_7 : decode cX1_slyestDepth 7 = .ok (.invokevirtual 23, 3) := by decide +kernel
theorem dX1_slyestDepth_10 : decode cX1_slyestDepth 10 = .ok (.istore 8, 2) := by decide +kernel
theorem dX1_slyestDepth_12 : decode cX1_slyestDepth 12 = .ok (.iload 8, 2) := by decide +kernel
theorem dX1_slyestDepth_14 : decode cX1_slyestDepth 14 = .ok (.iconst (-1), 1) := by decide +kernel
theorem dX1_slyestDepth_15 : decode cX1_slyestDepth 15 = .ok (.if_icmp .ne 6, 3) := by decide +kernel
theorem dX1_slyestDepth_18 : decode cX1_slyestDepth 18 = .ok (.iload 7, 2) := by decide +kernel
theorem dX1_slyestDepth_20 : decode cX1_slyestDepth 20 = .ok (.ireturn, 1) := by decide +kernel
theorem dX1_slyestDepth_21 : decode cX1_slyestDepth 21 = .ok (.aload_n 0, 1) := by decide +kernel
theorem dX1_slyestDepth_22 : decode cX1_slyestDepth 22 = .ok (.aload_n 1, 1) := by decide +kernel
theorem dX1_slyestDepth_23 : decode cX1_slyestDepth 23 = .ok (.iload_n 2, 1) := by decide +kernel
theorem dX1_slyestDepth_24 : decode cX1_slyestDepth 24 = .ok (.iconst 1, 1) := by decide +kernel
theorem dX1_slyestDepth_25 : decode cX1_slyestDepth 25 = .ok (.iload_n 3, 1) := by decide +kernel
theorem dX1_slyestDepth_26 : decode cX1_slyestDepth 26 = .ok (.isub, 1) := by decide +kernel
theorem dX1_slyestDepth_27 : decode cX1_slyestDepth 27 = .ok (.invokevirtual 23, 3) := by decide +kernel
theorem dX1_slyestDepth_30 : decode cX1_slyestDepth 30 = .ok (.iconst (-1), 1) := by decide +kernel
theorem dX1_slyestDepth_31 : decode cX1_slyestDepth 31 = .ok (.invokevirtual 62, 3) := by decide +kernel
theorem dX1_slyestDepth_34 : decode cX1_slyestDepth 34 = .ok (.lstore 9, 2) := by decide +kernel
theorem dX1_slyestDepth_36 : decode cX1_slyestDepth 36 = .ok (.iload_n 2, 1) := by decide +kernel
theorem dX1_slyestDepth_37 : decode cX1_slyestDepth 37 = .ok (.iconst 2, 1) := by decide +kernel
theorem dX1_slyestDepth_38 : decode cX1_slyestDepth 38 = .ok (.imul, 1) := by decide +kernel
theorem dX1_slyestDepth_39 : decode cX1_slyestDepth 39 = .ok (.iload_n 3, 1) := by decide +kernel
theorem dX1_slyestDepth_40 : decode cX1_slyestDepth 40 = .ok (.iadd, 1) := by decide +kernel
theorem dX1_slyestDepth_41 : decode cX1_slyestDepth 41 = .ok (.bipush 10, 2) := by decide +kernel
theorem dX1_slyestDepth_43 : decode cX1_slyestDepth 43 = .ok (.imul, 1) := by decide +kernel
theorem dX1_slyestDepth_44 : decode cX1_slyestDepth 44 = .ok (.istore 11, 2) := by decide +kernel
theorem dX1_slyestDepth_46 : decode cX1_slyestDepth 46 = .ok (.iconst 0, 1) := by decide +kernel
theorem dX1_slyestDepth_47 : decode cX1_slyestDepth 47 = .ok (.istore 12, 2) := by decide +kernel
theorem dX1_slyestDepth_49 : decode cX1_slyestDepth 49 = .ok (.iload 12, 2) := by decide +kernel
theorem dX1_slyestDepth_51 : decode cX1_slyestDepth 51 = .ok (.bipush 10, 2) := by decide +kernel
theorem dX1_slyestDepth_53 : decode cX1_slyestDepth 53 = .ok (.if_icmp .ge 85, 3) := by decide +kernel
theorem dX1_slyestDepth_56 : decode cX1_slyestDepth 56 = .ok (.iload 12, 2) := by decide +kernel
theorem dX1_slyestDepth_58 : decode cX1_slyestDepth 58 = .ok (.iload 8, 2) := by decide +kernel
theorem dX1_slyestDepth_60 : decode cX1_slyestDepth 60 = .ok (.bipush 10, 2) := by decide +kernel
theorem dX1_slyestDepth_62 : decode cX1_slyestDepth 62 = .ok (.irem, 1) := by decide +kernel
theorem dX1_slyestDepth_63 : decode cX1_slyestDepth 63 = .ok (.isub, 1) := by decide +kernel
theorem dX1_slyestDepth_64 : decode cX1_slyestDepth 64 = .ok (.invokestatic 118, 3) := by decide +kernel
theorem dX1_slyestDepth_67 : decode cX1_slyestDepth 67 = .ok (.istore 13, 2) := by decide +kernel
theorem dX1_slyestDepth_69 : decode cX1_slyestDepth 69 = .ok (.iload 13, 2) := by decide +kernel
theorem dX1_slyestDepth_71 : decode cX1_slyestDepth 71 = .ok (.iconst 1, 1) := by decide +kernel
theorem dX1_slyestDepth_72 : decode cX1_slyestDepth 72 = .ok (.if_icmp .lt 60, 3) := by decide +kernel
theorem dX1_slyestDepth_75 : decode cX1_slyestDepth 75 = .ok (.iload 13, 2) := by decide +kernel
theorem dX1_slyestDepth_77 : decode cX1_slyestDepth 77 = .ok (.iload 4, 2) := by decide +kernel
theorem dX1_slyestDepth_79 : decode cX1_slyestDepth 79 = .ok (.if_icmp .gt 53, 3) := by decide +kernel
theorem dX1_slyestDepth_82 : decode cX1_slyestDepth 82 = .ok (.aload_n 0, 1) := by decide +kernel
theorem dX1_slyestDepth_83 : decode cX1_slyestDepth 83 = .ok (.iload 8, 2) := by decide +kernel
theorem dX1_slyestDepth_85 : decode cX1_slyestDepth 85 = .ok (.iload 8, 2) := by decide +kernel
theorem dX1_slyestDepth_87 : decode cX1_slyestDepth 87 = .ok (.bipush 10, 2) := by decide +kernel
theorem dX1_slyestDepth_89 : decode cX1_slyestDepth 89 = .ok (.irem, 1) := by decide +kernel
theorem dX1_slyestDepth_90 : decode cX1_slyestDepth 90 = .ok (.isub, 1) := by decide +kernel
theorem dX1_slyestDepth_91 : decode cX1_slyestDepth 91 = .ok (.iload 12, 2) := by decide +kernel
theorem dX1_slyestDepth_93 : decode cX1_slyestDepth 93 = .ok (.iadd, 1) := by decide +kernel

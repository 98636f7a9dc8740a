theorem dX3_init_15 : decode cX3_init 15 = .ok (.newarray .int, 2) := by decide +kernel
theorem dX3_init_17 : decode cX3_init 17 = .ok (.putfield 15, 3) := by decide +kernel
theorem dX3_init_20 : decode cX3_init 20 = .ok (.aload_n 0, 1) := by decide +kernel
theorem dX3_init_21 : decode cX3_init 21 = .ok (.bipush 16, 2) := by decide +kernel
theorem dX3_init_23 : decode cX3_init 23 = .ok (.newarray .int, 2) := by decide +kernel
theorem dX3_init_25 : decode cX3_init 25 = .ok (.putfield 18, 3) := by decide +kernel
theorem dX3_init_28 : decode cX3_init 28 = .ok (.return_, 1) := by decide +kernel
theorem dX3_addSeizure_0 : decode cX3_addSeizure 0 = .ok (.aload_n 0, 1) := by decide +kernel
theorem dX3_addSeizure_1 : decode cX3_addSeizure 1 = .ok (.getfield 9, 3) := by decide +kernel
theorem dX3_addSeizure_4 : decode cX3_addSeizure 4 = .ok (.aload_n 0, 1) := by decide +kernel
theorem dX3_addSeizure_5 : decode cX3_addSeizure 5 = .ok (.getfield 21, 3) := by decide +kernel
theorem dX3_addSeizure_8 : decode cX3_addSeizure 8 = .ok (.iload_n 1, 1) := by decide +kernel
theorem dX3_addSeizure_9 : decode cX3_addSeizure 9 = .ok (.iastore, 1) := by decide +kernel
theorem dX3_addSeizure_10 : decode cX3_addSeizure 10 = .ok (.aload_n 0, 1) := by decide +kernel
theorem dX3_addSeizure_11 : decode cX3_addSeizure 11 = .ok (.getfield 15, 3) := by decide +kernel
theorem dX3_addSeizure_14 : decode cX3_addSeizure 14 = .ok (.aload_n 0, 1) := by decide +kernel
theorem dX3_addSeizure_15 : decode cX3_addSeizure 15 = .ok (.getfield 21, 3) := by decide +kernel
theorem dX3_addSeizure_18 : decode cX3_addSeizure 18 = .ok (.iload_n 2, 1) := by decide +kernel
theorem dX3_addSeizure_19 : decode cX3_addSeizure 19 = .ok (.iastore, 1) := by decide +kernel
theorem dX3_addSeizure_20 : decode cX3_addSeizure 20 = .ok (.aload_n 0, 1) := by decide +kernel
theorem dX3_addSeizure_21 : decode cX3_addSeizure 21 = .ok (.getfield 18, 3) := by decide +kernel
theorem dX3_addSeizure_24 : decode cX3_addSeizure 24 = .ok (.aload_n 0, 1) := by decide +kernel
theorem dX3_addSeizure_25 : decode cX3_addSeizure 25 = .ok (.getfield 21, 3) := by decide +kernel
theorem dX3_addSeizure_28 : decode cX3_addSeizure 28 = .ok (.iload_n 3, 1) := by decide +kernel
theorem dX3_addSeizure_29 : decode cX3_addSeizure 29 = .ok (.iastore, 1) := by decide +kernel
theorem dX3_addSeizure_30 : decode cX3_addSeizure 30 = .ok (.aload_n 0, 1) := by decide +kernel
theorem dX3_addSeizure_31 : decode cX3_addSeizure 31 = .ok (.dup, 1) := by decide +kernel
theorem dX3_addSeizure_32 : decode cX3_addSeizure 32 = .ok (.getfield 21, 3) := by decide +kernel
theorem dX3_addSeizure_35 : decode cX3_addSeizure 35 = .ok (.iconst 1, 1) := by decide +kernel
theorem dX3_addSeizure_36 : decode cX3_addSeizure 36 = .ok (.iadd, 1) := by decide +kernel
theorem dX3_addSeizure_37 : decode cX3_addSeizure 37 = .ok (.putfield 21, 3) := by decide +kernel
theorem dX3_addSeizure_40 : decode cX3_addSeizure 40 = .ok (.return_, 1) := by decide +kernel
set_option maxRecDepth 20000 in
theorem ggX3_isRight_X0_leave : GoodIn wsX3_isRight wsX0_leave := goodIn_r _ [8, 9, 10, 11, 7, 12, 13, 14, 15, 16, 17, 18, 19, 20, 21, 22, 23, 24, 25, 26, 27, 28, 29, 30, 35, 36, 37, 38, 39, 40, 41] (by decide +kernel) (by decide +kernel)
set_option maxRecDepth 20000 in
theorem gX3_isRight_X0_leave : GoodIn wsX3_isRight (wsV RX3 25 RX0 yX0_leave wsX0_leave) := goodIn_app (goodIn_of _ (by decide +kernel)) ggX3_isRight_X0_leave
theorem dX3_isRight_0 : decode cX3_isRight 0 = .ok (.aload_n 2, 1) := by decide +kernel
theorem dX3_isRight_1 : decode cX3_isRight 1 = .ok (.aload_n 0, 1) := by decide +kernel
theorem dX3_isRight_2 : decode cX3_isRight 2 = .ok (.getfield 9, 3) := by decide +kernel
theorem dX3_isRight_5 : decode cX3_isRight 5 = .ok (.iload_n 1, 1) := by decide +kernel
theorem dX3_isRight_6 : decode cX3_isRight 6 = .ok (.iaload, 1) := by decide +kernel
theorem dX3_isRight_7 : decode cX3_isRight 7 = .ok (.aload_n 0, 1) := by decide +kernel
theorem dX3_isRight_8 : decode cX3_isRight 8 = .ok (.getfield 15, 3) := by decide +kernel
theorem dX3_isRight_11 : decode cX3_isRight 11 = .ok (.iload_n 1, 1) := by decide +kernel
theorem dX3_isRight_12 : decode cX3_isRight 12 = .ok (.iaload, 1) := by decide +kernel
theorem dX3_isRight_13 : decode cX3_isRight 13 = .ok (.iconst 1, 1) := by decide +kernel
theorem dX3_isRight_14 : decode cX3_isRight 14 = .ok (.aload_n 0, 1) := by decide +kernel
theorem dX3_isRight_15 : decode cX3_isRight 15 = .ok (.getfield 18, 3) := by decide +kernel
theorem dX3_isRight_18 : decode cX3_isRight 18 = .ok (.iload_n 1, 1) := by decide +kernel
theorem dX3_isRight_19 : decode cX3_isRight 19 = .ok (.iaload, 1) := by decide +kernel
theorem dX3_isRight_20 : decode cX3_isRight 20 = .ok (.ishl, 1) := by decide +kernel
theorem dX3_isRight_21 : decode cX3_isRight 21 = .ok (.iconst 1, 1) := by decide +kernel
theorem dX3_isRight_22 : decode cX3_isRight 22 = .ok (.isub, 1) := by decide +kernel
theorem dX3_isRight_23 : decode cX3_isRight 23 = .ok (.invokevirtual 25, 3) := by decide +kernel
theorem dX3_isRight_26 : decode cX3_isRight 26 = .ok (.ifCond .ne 7, 3) := by decide +kernel
theorem dX3_isRight_29 : decode cX3_isRight 29 = .ok (.iconst 1, 1) := by decide +kernel
theorem dX3_isRight_30 : decode cX3_isRight 30 = .ok (.goto 4, 3) := by decide +kernel
theorem dX3_isRight_33 : decode cX3_isRight 33 = .ok (.iconst 0, 1) := by decide +kernel
theorem dX3_isRight_34 : decode cX3_isRight 34 = .ok (.ireturn, 1) := by decide +kernel
set_option maxRecDepth 20000 in
theorem ggX3_firstWrong_X3_isRight : GoodIn wsX3_firstWrong wsX3_isRight := goodIn_r _ [6, 7, 8, 9, 10, 11, 12, 13, 14, 15, 16, 17, 18, 19, 20, 21, 22, 23, 24, 25, 26, 27, 28, 29, 30, 31, 32, 33, 34, 35, 36, 37, 38, 39, 40, 41, 42, 43, 44, 45, 46, 47] (by decide +kernel) (by decide +kernel)
set_option maxRecDepth 20000 in
theorem gX3_firstWrong_X3_isRight : GoodIn wsX3_firstWrong (wsV RX3 31 RX3 yX3_isRight wsX3_isRight) := goodIn_app (goodIn_of _ (by decide +kernel)) ggX3_firstWrong_X3_isRight
theorem dX3_firstWrong_0 : decode cX3_firstWrong 0 = .ok (.iconst 0, 1) := by decide +kernel
theorem dX3_firstWrong_1 : decode cX3_firstWrong 1 = .ok (.istore_n 2, 1) := by decide +kernel
theorem dX3_firstWrong_2 : decode cX3_firstWrong 2 = .ok (.iload_n 2, 1) := by decide +kernel
theorem dX3_firstWrong_3 : decode cX3_firstWrong 3 = .ok (.aload_n 0, 1) := by decide +kernel
theorem dX3_firstWrong_4 : decode cX3_firstWrong 4 = .ok (.getfield 21, 3) := by decide +kernel
theorem dX3_firstWrong_7 : decode cX3_firstWrong 7 = .ok (.if_icmp .ge 20, 3) := by decide +kernel
theorem dX3_firstWrong_10 : decode cX3_firstWrong 10 = .ok (.aload_n 0, 1) := by decide +kernel
theorem dX3_firstWrong_11 : decode cX3_firstWrong 11 = .ok (.iload_n 2, 1) := by decide +kernel
theorem dX3_firstWrong_12 : decode cX3_firstWrong 12 = .ok (.aload_n 1, 1) := by decide +kernel
theorem dX3_firstWrong_13 : decode cX3_firstWrong 13 = .ok (.invokevirtual 31, 3) := by decide +kernel
theorem dX3_firstWrong_16 : decode cX3_firstWrong 16 = .ok (.ifCond .ne 5, 3) := by decide +kernel
theorem dX3_firstWrong_19 : decode cX3_firstWrong 19 = .ok (.iload_n 2, 1) := by decide +kernel
theorem dX3_firstWrong_20 : decode cX3_firstWrong 20 = .ok (.ireturn, 1) := by decide +kernel
theorem dX3_firstWrong_21 : decode cX3_firstWrong 21 = .ok (.iinc 2 1, 3) := by decide +kernel
theorem dX3_firstWrong_24 : decode cX3_firstWrong 24 = .ok (.goto (-22), 3) := by decide +kernel
theorem dX3_firstWrong_27 : decode cX3_firstWrong 27 = .ok (.iconst (-1), 1) := by decide +kernel
theorem dX3_firstWrong_28 : decode cX3_firstWrong 28 = .ok (.ireturn, 1) := by decide +kernel
set_option maxRecDepth 20000 in
theorem ggX4_init_J7_fill_53178 : GoodIn wsX4_init wsJ7_fill_53178 := goodIn_r _ [10] (by decide +kernel) (by decide +kernel)
set_option maxRecDepth 20000 in
theorem gX4_init_J7_fill_53178 : GoodIn wsX4_init (va_wsS RX4 18 yJ7_fill_53178 wsJ7_fill_53178) := goodIn_app (goodIn_of _ (by decide +kernel)) ggX4_init_J7_fill_53178
theorem dX4_init_0 : decode cX4_init 0 = .ok (.aload_n 0, 1) := by decide +kernel
theorem dX4_init_1 : decode cX4_init 1 = .ok (.invokespecial 3, 3) := by decide +kernel
theorem dX4_init_4 : decode cX4_init 4 = .ok (.aload_n 0, 1) := by decide +kernel
theorem dX4_init_5 : decode cX4_init 5 = .ok (.bipush 36, 2) := by decide +kernel
theorem dX4_init_7 : decode cX4_init 7 = .ok (.newarray .int, 2) := by decide +kernel
theorem dX4_init_9 : decode cX4_init 9 = .ok (.putfield 9, 3) := by decide +kernel
theorem dX4_init_12 : decode cX4_init 12 = .ok (.aload_n 0, 1) := by decide +kernel
theorem dX4_init_13 : decode cX4_init 13 = .ok (.bipush 6, 2) := by decide +kernel
theorem dX4_init_15 : decode cX4_init 15 = .ok (.newarray .int, 2) := by decide +kernel
theorem dX4_init_17 : decode cX4_init 17 = .ok (.putfield 15, 3) := by decide +kernel
theorem dX4_init_20 : decode cX4_init 20 = .ok (.aload_n 0, 1) := by decide +kernel
theorem dX4_init_21 : decode cX4_init 21 = .ok (.getfield 9, 3) := by decide +kernel
theorem dX4_init_24 : decode cX4_init 24 = .ok (.iconst 1, 1) := by decide +kernel
theorem dX4_init_25 : decode cX4_init 25 = .ok (.invokestatic 18, 3) := by decide +kernel
theorem dX4_init_28 : decode cX4_init 28 = .ok (.aload_n 0, 1) := by decide +kernel
theorem dX4_init_29 : decode cX4_init 29 = .ok (.getfield 15, 3) := by decide +kernel
theorem dX4_init_32 : decode cX4_init 32 = .ok (.iconst 1, 1) := by decide +kernel
theorem dX4_init_33 : decode cX4_init 33 = .ok (.invokestatic 18, 3) := by decide +kernel
theorem dX4_init_36 : decode cX4_init 36 = .ok (.return_, 1) := by decide +kernel
theorem dX4_ofWork_0 : decode cX4_ofWork 0 = .ok (.iload_n 3, 1) := by decide +kernel
theorem dX4_ofWork_1 : decode cX4_ofWork 1 = .ok (.ifCond .ne 20, 3) := by decide +kernel
theorem dX4_ofWork_4 : decode cX4_ofWork 4 = .ok (.aload_n 0, 1) := by decide +kernel
theorem dX4_ofWork_5 : decode cX4_ofWork 5 = .ok (.getfield 9, 3) := by decide +kernel
theorem dX4_ofWork_8 : decode cX4_ofWork 8 = .ok (.iload_n 1, 1) := by decide +kernel
theorem dX4_ofWork_9 : decode cX4_ofWork 9 = .ok (.bipush 6, 2) := by decide +kernel
theorem dX4_ofWork_11 : decode cX4_ofWork 11 = .ok (.imul, 1) := by decide +kernel
theorem dX4_ofWork_12 : decode cX4_ofWork 12 = .ok (.iload_n 2, 1) := by decide +kernel
theorem dX4_ofWork_13 : decode cX4_ofWork 13 = .ok (.bipush 40, 2) := by decide +kernel
theorem dX4_ofWork_15 : decode cX4_ofWork 15 = .ok (.idiv, 1) := by decide +kernel
theorem dX4_ofWork_16 : decode cX4_ofWork 16 = .ok (.iadd, 1) := by decide +kernel
theorem dX4_ofWork_17 : decode cX4_ofWork 17 = .ok (.iaload, 1) := by decide +kernel
theorem dX4_ofWork_18 : decode cX4_ofWork 18 = .ok (.goto 9, 3) := by decide +kernel
theorem dX4_ofWork_21 : decode cX4_ofWork 21 = .ok (.aload_n 0, 1) := by decide +kernel
theorem dX4_ofWork_22 : decode cX4_ofWork 22 = .ok (.getfield 15, 3) := by decide +kernel
theorem dX4_ofWork_25 : decode cX4_ofWork 25 = .ok (.iload_n 1, 1) := by decide +kernel
theorem dX4_ofWork_26 : decode cX4_ofWork 26 = .ok (.iaload, 1) := by decide +kernel
theorem dX4_ofWork_27 : decode cX4_ofWork 27 = .ok (.ireturn, 1) := by decide +kernel
theorem dX4_ofCarrying_0 : decode cX4_ofCarrying 0 = .ok (.iload_n 1, 1) := by decide +kernel
theorem dX4_ofCarrying_1 : decode cX4_ofCarrying 1 = .ok (.ifCond .ne 10, 3) := by decide +kernel
theorem dX4_ofCarrying_4 : decode cX4_ofCarrying 4 = .ok (.aload_n 0, 1) := by decide +kernel
theorem dX4_ofCarrying_5 : decode cX4_ofCarrying 5 = .ok (.getfield 24, 3) := by decide +kernel
theorem dX4_ofCarrying_8 : decode cX4_ofCarrying 8 = .ok (.goto 4, 3) := by decide +kernel
theorem dX4_ofCarrying_11 : decode cX4_ofCarrying 11 = .ok (.iconst 1, 1) := by decide +kernel
theorem dX4_ofCarrying_12 : decode cX4_ofCarrying 12 = .ok (.ireturn, 1) := by decide +kernel
theorem dX5_init_0 : decode cX5_init 0 = .ok (.aload_n 0, 1) := by decide +kernel
theorem dX5_init_1 : decode cX5_init 1 = .ok (.invokespecial 3, 3) := by decide +kernel
theorem dX5_init_4 : decode cX5_init 4 = .ok (.aload_n 0, 1) := by decide +kernel
theorem dX5_init_5 : decode cX5_init 5 = .ok (.sipush 160, 3) := by decide +kernel
theorem dX5_init_8 : decode cX5_init 8 = .ok (.newarray .int, 2) := by decide +kernel
theorem dX5_init_10 : decode cX5_init 10 = .ok (.putfield 9, 3) := by decide +kernel
theorem dX5_init_13 : decode cX5_init 13 = .ok (.return_, 1) := by decide +kernel
theorem dX6_init_0 : decode cX6_init 0 = .ok (.aload_n 0, 1) := by decide +kernel
theorem dX6_init_1 : decode cX6_init 1 = .ok (.invokespecial 3, 3) := by decide +kernel
theorem dX6_init_4 : decode cX6_init 4 = .ok (.aload_n 0, 1) := by decide +kernel
theorem dX6_init_5 : decode cX6_init 5 = .ok (.bipush 16, 2) := by decide +kernel
theorem dX6_init_7 : decode cX6_init 7 = .ok (.newarray .int, 2) := by decide +kernel
theorem dX6_init_9 : decode cX6_init 9 = .ok (.putfield 9, 3) := by decide +kernel
theorem dX6_init_12 : decode cX6_init 12 = .ok (.return_, 1) := by decide +kernel
theorem dX6_addStep_0 : decode cX6_addStep 0 = .ok (.aload_n 0, 1) := by decide +kernel
theorem dX6_addStep_1 : decode cX6_addStep 1 = .ok (.getfield 9, 3) := by decide +kernel
theorem dX6_addStep_4 : decode cX6_addStep 4 = .ok (.aload_n 0, 1) := by decide +kernel
theorem dX6_addStep_5 : decode cX6_addStep 5 = .ok (.getfield 15, 3) := by decide +kernel
theorem dX6_addStep_8 : decode cX6_addStep 8 = .ok (.iconst 2, 1) := by decide +kernel
theorem dX6_addStep_9 : decode cX6_addStep 9 = .ok (.imul, 1) := by decide +kernel
theorem dX6_addStep_10 : decode cX6_addStep 10 = .ok (.iload_n 1, 1) := by decide +kernel
theorem dX6_addStep_11 : decode cX6_addStep 11 = .ok (.iastore, 1) := by decide +kernel
theorem dX6_addStep_12 : decode cX6_addStep 12 = .ok (.aload_n 0, 1) := by decide +kernel
theorem dX6_addStep_13 : decode cX6_addStep 13 = .ok (.getfield 9, 3) := by decide +kernel
theorem dX6_addStep_16 : decode cX6_addStep 16 = .ok (.aload_n 0, 1) := by decide +kernel
theorem dX6_addStep_17 : decode cX6_addStep 17 = .ok (.getfield 15, 3) := by decide +kernel
theorem dX6_addStep_20 : decode cX6_addStep 20 = .ok (.iconst 2, 1) := by decide +kernel
theorem dX6_addStep_21 : decode cX6_addStep 21 = .ok (.imul, 1) := by decide +kernel
theorem dX6_addStep_22 : decode cX6_addStep 22 = .ok (.iconst 1, 1) := by decide +kernel
theorem dX6_addStep_23 : decode cX6_addStep 23 = .ok (.iadd, 1) := by decide +kernel
theorem dX6_addStep_24 : decode cX6_addStep 24 = .ok (.iload_n 2, 1) := by decide +kernel
theorem dX6_addStep_25 : decode cX6_addStep 25 = .ok (.iastore, 1) := by decide +kernel
theorem dX6_addStep_26 : decode cX6_addStep 26 = .ok (.aload_n 0, 1) := by decide +kernel
theorem dX6_addStep_27 : decode cX6_addStep 27 = .ok (.dup, 1) := by decide +kernel
theorem dX6_addStep_28 : decode cX6_addStep 28 = .ok (.getfield 15, 3) := by decide +kernel
theorem dX6_addStep_31 : decode cX6_addStep 31 = .ok (.iconst 1, 1) := by decide +kernel
theorem dX6_addStep_32 : decode cX6_addStep 32 = .ok (.iadd, 1) := by decide +kernel
theorem dX6_addStep_33 : decode cX6_addStep 33 = .ok (.putfield 15, 3) := by decide +kernel
theorem dX6_addStep_36 : decode cX6_addStep 36 = .ok (.return_, 1) := by decide +kernel
theorem dX6_workAt_0 : decode cX6_workAt 0 = .ok (.aload_n 0, 1) := by decide +kernel
theorem dX6_workAt_1 : decode cX6_workAt 1 = .ok (.getfield 9, 3) := by decide +kernel
theorem dX6_workAt_4 : decode cX6_workAt 4 = .ok (.iload_n 1, 1) := by decide +kernel
theorem dX6_workAt_5 : decode cX6_workAt 5 = .ok (.iconst 2, 1) := by decide +kernel
theorem dX6_workAt_6 : decode cX6_workAt 6 = .ok (.imul, 1) := by decide +kernel
theorem dX6_workAt_7 : decode cX6_workAt 7 = .ok (.iload_n 2, 1) := by decide +kernel
theorem dX6_workAt_8 : decode cX6_workAt 8 = .ok (.iadd, 1) := by decide +kernel
theorem dX6_workAt_9 : decode cX6_workAt 9 = .ok (.iaload, 1) := by decide +kernel
theorem dX6_workAt_10 : decode cX6_workAt 10 = .ok (.ireturn, 1) := by decide +kernel
set_option maxRecDepth 20000 in
theorem ggX7_init_X5_init : GoodIn wsX7_init wsX5_init := goodIn_r _ [35, 36, 2, 3, 32, 37, 80, 81] (by decide +kernel) (by decide +kernel)
set_option maxRecDepth 20000 in
theorem gX7_init_X5_init_n11 : GoodIn wsX7_init (wsX5_init) := ggX7_init_X5_init
set_option maxRecDepth 20000 in
theorem ggX7_init_X2_init : GoodIn wsX7_init wsX2_init := goodIn_r _ [40, 41, 2, 3, 32, 42, 43, 91, 92, 93, 94, 95, 96] (by decide +kernel) (by decide +kernel)
set_option maxRecDepth 20000 in
theorem gX7_init_X2_init : GoodIn wsX7_init (wsX2_init) := ggX7_init_X2_init
set_option maxRecDepth 20000 in
theorem ggX7_init_X0_init : GoodIn wsX7_init wsX0_init := goodIn_r _ [45, 46, 2, 3, 32, 47, 48, 49, 50, 51, 52, 97, 98, 99, 100, 101, 102, 103] (by decide +kernel) (by decide +kernel)
set_option maxRecDepth 20000 in
theorem gX7_init_X0_init_n27 : GoodIn wsX7_init (wsX0_init) := ggX7_init_X0_init
set_option maxRecDepth 20000 in
theorem ggX7_init_X4_init : GoodIn wsX7_init wsX4_init := goodIn_r _ [55, 56, 2, 3, 32, 57, 58, 59, 60, 61, 62, 104, 105, 106] (by decide +kernel) (by decide +kernel)
set_option maxRecDepth 20000 in
theorem gX7_init_X4_init : GoodIn wsX7_init (wsX4_init) := ggX7_init_X4_init
set_option maxRecDepth 20000 in
theorem ggX7_init_X1_init : GoodIn wsX7_init wsX1_init := goodIn_r _ [65, 66, 2, 3, 32, 67, 68, 69, 107, 108, 109] (by decide +kernel) (by decide +kernel)
set_option maxRecDepth 20000 in
theorem gX7_init_X1_init : GoodIn wsX7_init (wsX1_init) := ggX7_init_X1_init
set_option maxRecDepth 20000 in
theorem ggX7_init_X6_init : GoodIn wsX7_init wsX6_init := goodIn_r _ [71, 72, 2, 3, 32, 73, 110, 111] (by decide +kernel) (by decide +kernel)
set_option maxRecDepth 20000 in
theorem gX7_init_X6_init_n54 : GoodIn wsX7_init (wsX6_init) := ggX7_init_X6_init
set_option maxRecDepth 20000 in
theorem ggX7_init_X3_init : GoodIn wsX7_init wsX3_init := goodIn_r _ [75, 76, 2, 3, 32, 77, 78, 79, 112, 113, 114, 115] (by decide +kernel) (by decide +kernel)
set_option maxRecDepth 20000 in
theorem gX7_init_X3_init_n57 : GoodIn wsX7_init (wsX3_init) := ggX7_init_X3_init
theorem dX7_init_0 : decode cX7_init 0 = .ok (.aload_n 0, 1) := by decide +kernel
theorem dX7_init_1 : decode cX7_init 1 = .ok (.invokespecial 3, 3) := by decide +kernel
theorem dX7_init_4 : decode cX7_init 4 = .ok (.aload_n 0, 1) := by decide +kernel
theorem dX7_init_5 : decode cX7_init 5 = .ok (.new 9, 3) := by decide +kernel
theorem dX7_init_8 : decode cX7_init 8 = .ok (.dup, 1) := by decide +kernel
theorem dX7_init_9 : decode cX7_init 9 = .ok (.invokespecial 11, 3) := by decide +kernel
theorem dX7_init_12 : decode cX7_init 12 = .ok (.putfield 12, 3) := by decide +kernel
theorem dX7_init_15 : decode cX7_init 15 = .ok (.aload_n 0, 1) := by decide +kernel
theorem dX7_init_16 : decode cX7_init 16 = .ok (.new 16, 3) := by decide +kernel
theorem dX7_init_19 : decode cX7_init 19 = .ok (.dup, 1) := by decide +kernel
theorem dX7_init_20 : decode cX7_init 20 = .ok (.aload_n 0, 1) := by decide +kernel
theorem dX7_init_21 : decode cX7_init 21 = .ok (.getfield 12, 3) := by decide +kernel
theorem dX7_init_24 : decode cX7_init 24 = .ok (.invokespecial 18, 3) := by decide +kernel
theorem dX7_init_27 : decode cX7_init 27 = .ok (.putfield 21, 3) := by decide +kernel
theorem dX7_init_30 : decode cX7_init 30 = .ok (.aload_n 0, 1) := by decide +kernel
theorem dX7_init_31 : decode cX7_init 31 = .ok (.new 25, 3) := by decide +kernel
theorem dX7_init_34 : decode cX7_init 34 = .ok (.dup, 1) := by decide +kernel
theorem dX7_init_35 : decode cX7_init 35 = .ok (.invokespecial 27, 3) := by decide +kernel
theorem dX7_init_38 : decode cX7_init 38 = .ok (.putfield 28, 3) := by decide +kernel
theorem dX7_init_41 : decode cX7_init 41 = .ok (.aload_n 0, 1) := by decide +kernel
theorem dX7_init_42 : decode cX7_init 42 = .ok (.new 32, 3) := by decide +kernel
theorem dX7_init_45 : decode cX7_init 45 = .ok (.dup, 1) := by decide +kernel
theorem dX7_init_46 : decode cX7_init 46 = .ok (.invokespecial 34, 3) := by decide +kernel
theorem dX7_init_49 : decode cX7_init 49 = .ok (.putfield 35, 3) := by decide +kernel
theorem dX7_init_52 : decode cX7_init 52 = .ok (.aload_n 0, 1) := by decide +kernel
theorem dX7_init_53 : decode cX7_init 53 = .ok (.new 39, 3) := by decide +kernel
theorem dX7_init_56 : decode cX7_init 56 = .ok (.dup, 1) := by decide +kernel
theorem dX7_init_57 : decode cX7_init 57 = .ok (.aload_n 0, 1) := by decide +kernel
theorem dX7_init_58 : decode cX7_init 58 = .ok (.getfield 28, 3) := by decide +kernel
theorem dX7_init_61 : decode cX7_init 61 = .ok (.aload_n 0, 1) := by decide +kernel
theorem dX7_init_62 : decode cX7_init 62 = .ok (.getfield 35, 3) := by decide +kernel
theorem dX7_init_65 : decode cX7_init 65 = .ok (.invokespecial 41, 3) := by decide +kernel
theorem dX7_init_68 : decode cX7_init 68 = .ok (.putfield 44, 3) := by decide +kernel
theorem dX7_init_71 : decode cX7_init 71 = .ok (.aload_n 0, 1) := by decide +kernel
theorem dX7_init_72 : decode cX7_init 72 = .ok (.bipush 6, 2) := by decide +kernel
theorem dX7_init_74 : decode cX7_init 74 = .ok (.anewarray 48, 3) := by decide +kernel
theorem dX7_init_77 : decode cX7_init 77 = .ok (.putfield 50, 3) := by decide +kernel
theorem dX7_init_80 : decode cX7_init 80 = .ok (.iconst 0, 1) := by decide +kernel
theorem dX7_init_81 : decode cX7_init 81 = .ok (.istore_n 1, 1) := by decide +kernel
theorem dX7_init_82 : decode cX7_init 82 = .ok (.iload_n 1, 1) := by decide +kernel
theorem dX7_init_83 : decode cX7_init 83 = .ok (.bipush 6, 2) := by decide +kernel
theorem dX7_init_85 : decode cX7_init 85 = .ok (.if_icmp .ge 22, 3) := by decide +kernel
theorem dX7_init_88 : decode cX7_init 88 = .ok (.aload_n 0, 1) := by decide +kernel
theorem dX7_init_89 : decode cX7_init 89 = .ok (.getfield 50, 3) := by decide +kernel
theorem dX7_init_92 : decode cX7_init 92 = .ok (.iload_n 1, 1) := by decide +kernel
theorem dX7_init_93 : decode cX7_init 93 = .ok (.new 48, 3) := by decide +kernel
theorem dX7_init_96 : decode cX7_init 96 = .ok (.dup, 1) := by decide +kernel
theorem dX7_init_97 : decode cX7_init 97 = .ok (.invokespecial 54, 3) := by decide +kernel
theorem dX7_init_100 : decode cX7_init 100 = .ok (.aastore, 1) := by decide +kernel
theorem dX7_init_101 : decode cX7_init 101 = .ok (.iinc 1 1, 3) := by decide +kernel
theorem dX7_init_104 : decode cX7_init 104 = .ok (.goto (-22), 3) := by decide +kernel
theorem dX7_init_107 : decode cX7_init 107 = .ok (.aload_n 0, 1) := by decide +kernel
theorem dX7_init_108 : decode cX7_init 108 = .ok (.new 55, 3) := by decide +kernel
theorem dX7_init_111 : decode cX7_init 111 = .ok (.dup, 1) := by decide +kernel
theorem dX7_init_112 : decode cX7_init 112 = .ok (.invokespecial 57, 3) := by decide +kernel
theorem dX7_init_115 : decode cX7_init 115 = .ok (.putfield 58, 3) := by decide +kernel
theorem dX7_init_118 : decode cX7_init 118 = .ok (.aload_n 0, 1) := by decide +kernel
theorem dX7_init_119 : decode cX7_init 119 = .ok (.bipush 24, 2) := by decide +kernel
theorem dX7_init_121 : decode cX7_init 121 = .ok (.newarray .int, 2) := by decide +kernel
theorem dX7_init_123 : decode cX7_init 123 = .ok (.putfield 62, 3) := by decide +kernel
theorem dX7_init_126 : decode cX7_init 126 = .ok (.return_, 1) := by decide +kernel
set_option maxRecDepth 20000 in
theorem ggX7_write_X7_isOff : GoodIn wsX7_write wsX7_isOff := goodIn_r _ [8] (by decide +kernel) (by decide +kernel)
set_option maxRecDepth 20000 in
theorem gX7_write_X7_isOff : GoodIn wsX7_write (va_wsS RX7 66 yX7_isOff wsX7_isOff) := goodIn_app (goodIn_of _ (by decide +kernel)) ggX7_write_X7_isOff
theorem dX7_write_0 : decode cX7_write 0 = .ok (.iload_n 3, 1) := by decide +kernel
theorem dX7_write_1 : decode cX7_write 1 = .ok (.iconst 1, 1) := by decide +kernel
theorem dX7_write_2 : decode cX7_write 2 = .ok (.bipush 8, 2) := by decide +kernel
theorem dX7_write_4 : decode cX7_write 4 = .ok (.invokestatic 66, 3) := by decide +kernel
theorem dX7_write_7 : decode cX7_write 7 = .ok (.ifCond .eq 6, 3) := by decide +kernel
theorem dX7_write_10 : decode cX7_write 10 = .ok (.bipush (-3), 2) := by decide +kernel
theorem dX7_write_12 : decode cX7_write 12 = .ok (.ireturn, 1) := by decide +kernel
theorem dX7_write_13 : decode cX7_write 13 = .ok (.aload_n 0, 1) := by decide +kernel
theorem dX7_write_14 : decode cX7_write 14 = .ok (.getfield 12, 3) := by decide +kernel
theorem dX7_write_17 : decode cX7_write 17 = .ok (.getfield 70, 3) := by decide +kernel
theorem dX7_write_20 : decode cX7_write 20 = .ok (.iload_n 3, 1) := by decide +kernel
theorem dX7_write_21 : decode cX7_write 21 = .ok (.iadd, 1) := by decide +kernel
theorem dX7_write_22 : decode cX7_write 22 = .ok (.sipush 160, 3) := by decide +kernel
theorem dX7_write_25 : decode cX7_write 25 = .ok (.if_icmp .le 6, 3) := by decide +kernel
theorem dX7_write_28 : decode cX7_write 28 = .ok (.bipush (-5), 2) := by decide +kernel
theorem dX7_write_30 : decode cX7_write 30 = .ok (.ireturn, 1) := by decide +kernel
theorem dX7_write_31 : decode cX7_write 31 = .ok (.iconst 0, 1) := by decide +kernel
theorem dX7_write_32 : decode cX7_write 32 = .ok (.istore 4, 2) := by decide +kernel
theorem dX7_write_34 : decode cX7_write 34 = .ok (.iload 4, 2) := by decide +kernel
theorem dX7_write_36 : decode cX7_write 36 = .ok (.iload_n 3, 1) := by decide +kernel
theorem dX7_write_37 : decode cX7_write 37 = .ok (.if_icmp .ge 39, 3) := by decide +kernel
theorem dX7_write_40 : decode cX7_write 40 = .ok (.aload_n 0, 1) := by decide +kernel
theorem dX7_write_41 : decode cX7_write 41 = .ok (.getfield 12, 3) := by decide +kernel
theorem dX7_write_44 : decode cX7_write 44 = .ok (.getfield 74, 3) := by decide +kernel
theorem dX7_write_47 : decode cX7_write 47 = .ok (.aload_n 0, 1) := by decide +kernel
theorem dX7_write_48 : decode cX7_write 48 = .ok (.getfield 12, 3) := by decide +kernel
theorem dX7_write_51 : decode cX7_write 51 = .ok (.getfield 70, 3) := by decide +kernel
theorem dX7_write_54 : decode cX7_write 54 = .ok (.iload 4, 2) := by decide +kernel
theorem dX7_write_56 : decode cX7_write 56 = .ok (.iadd, 1) := by decide +kernel
theorem dX7_write_57 : decode cX7_write 57 = .ok (.lload_n 1, 1) := by decide +kernel
theorem dX7_write_58 : decode cX7_write 58 = .ok (.bipush 8, 2) := by decide +kernel
theorem dX7_write_60 : decode cX7_write 60 = .ok (.iload 4, 2) := by decide +kernel
theorem dX7_write_62 : decode cX7_write 62 = .ok (.imul, 1) := by decide +kernel
theorem dX7_write_63 : decode cX7_write 63 = .ok (.lshr, 1) := by decide +kernel
theorem dX7_write_64 : decode cX7_write 64 = .ok (.ldc2_w 77, 3) := by decide +kernel
theorem dX7_write_67 : decode cX7_write 67 = .ok (.land, 1) := by decide +kernel
theorem dX7_write_68 : decode cX7_write 68 = .ok (.l2i, 1) := by decide +kernel
theorem dX7_write_69 : decode cX7_write 69 = .ok (.iastore, 1) := by decide +kernel
theorem dX7_write_70 : decode cX7_write 70 = .ok (.iinc 4 1, 3) := by decide +kernel
theorem dX7_write_73 : decode cX7_write 73 = .ok (.goto (-39), 3) := by decide +kernel
theorem dX7_write_76 : decode cX7_write 76 = .ok (.aload_n 0, 1) := by decide +kernel
theorem dX7_write_77 : decode cX7_write 77 = .ok (.getfield 12, 3) := by decide +kernel
theorem dX7_write_80 : decode cX7_write 80 = .ok (.dup, 1) := by decide +kernel
theorem dX7_write_81 : decode cX7_write 81 = .ok (.getfield 70, 3) := by decide +kernel
theorem dX7_write_84 : decode cX7_write 84 = .ok (.iload_n 3, 1) := by decide +kernel
theorem dX7_write_85 : decode cX7_write 85 = .ok (.iadd, 1) := by decide +kernel
theorem dX7_write_86 : decode cX7_write 86 = .ok (.putfield 70, 3) := by decide +kernel
theorem dX7_write_89 : decode cX7_write 89 = .ok (.aload_n 0, 1) := by decide +kernel
theorem dX7_write_90 : decode cX7_write 90 = .ok (.getfield 12, 3) := by decide +kernel
theorem dX7_write_93 : decode cX7_write 93 = .ok (.getfield 70, 3) := by decide +kernel
theorem dX7_write_96 : decode cX7_write 96 = .ok (.ireturn, 1) := by decide +kernel
theorem dX7_erase_0 : decode cX7_erase 0 = .ok (.aload_n 0, 1) := by decide +kernel
theorem dX7_erase_1 : decode cX7_erase 1 = .ok (.getfield 12, 3) := by decide +kernel
theorem dX7_erase_4 : decode cX7_erase 4 = .ok (.getfield 70, 3) := by decide +kernel
theorem dX7_erase_7 : decode cX7_erase 7 = .ok (.istore_n 1, 1) := by decide +kernel
theorem dX7_erase_8 : decode cX7_erase 8 = .ok (.aload_n 0, 1) := by decide +kernel
theorem dX7_erase_9 : decode cX7_erase 9 = .ok (.getfield 12, 3) := by decide +kernel
theorem dX7_erase_12 : decode cX7_erase 12 = .ok (.iconst 0, 1) := by decide +kernel
theorem dX7_erase_13 : decode cX7_erase 13 = .ok (.putfield 70, 3) := by decide +kernel
theorem dX7_erase_16 : decode cX7_erase 16 = .ok (.iload_n 1, 1) := by decide +kernel
theorem dX7_erase_17 : decode cX7_erase 17 = .ok (.ireturn, 1) := by decide +kernel
set_option maxRecDepth 20000 in
theorem ggX7_fault_X2_readText : GoodIn wsX7_fault wsX2_readText := goodIn_r _ [6, 7, 8, 9, 10, 11, 12, 13, 5, 14, 15, 16, 17, 18, 19, 20, 21, 22, 23, 24, 25, 26, 27, 28, 29, 30, 31, 32, 33, 34, 35, 36, 37, 38, 39, 40, 41, 42, 43, 44, 45, 46, 47, 48, 49, 50, 51, 52, 53, 54, 55, 56, 57, 58, 59, 60, 61, 62, 63, 64, 65, 66, 67, 68, 69, 70, 71, 72, 73, 74, 75, 76, 77, 78, 79, 80, 81, 82, 83, 84, 85, 86, 87, 88, 89, 90, 91, 92, 93, 94, 95, 96, 97, 98, 99, 100, 101, 102, 112, 113, 114, 115, 116, 117, 118, 119] (by decide +kernel) (by decide +kernel)
set_option maxRecDepth 20000 in
theorem gX7_fault_X2_readText : GoodIn wsX7_fault (wsV RX7 79 RX2 yX2_readText wsX2_readText) := goodIn_app (goodIn_of _ (by decide +kernel)) ggX7_fault_X2_readText
theorem dX7_fault_0 : decode cX7_fault 0 = .ok (.aload_n 0, 1) := by decide +kernel
theorem dX7_fault_1 : decode cX7_fault 1 = .ok (.getfield 21, 3) := by decide +kernel
theorem dX7_fault_4 : decode cX7_fault 4 = .ok (.invokevirtual 79, 3) := by decide +kernel
theorem dX7_fault_7 : decode cX7_fault 7 = .ok (.ireturn, 1) := by decide +kernel
set_option maxRecDepth 20000 in
theorem ggX7_bounds_X2_readText : GoodIn wsX7_bounds wsX2_readText := goodIn_r _ [12, 13, 14, 15, 16, 17, 18, 19, 11, 20, 21, 22, 23, 24, 25, 26, 27, 28, 29, 30, 31, 32, 33, 34, 35, 36, 37, 38, 39, 40, 41, 42, 43, 44, 45, 46, 47, 48, 49, 50, 51, 52, 53, 54, 55, 56, 57, 58, 59, 60, 61, 62, 63, 64, 65, 66, 67, 68, 69, 70, 71, 72, 73, 74, 75, 76, 77, 78, 79, 80, 81, 82, 83, 84, 85, 86, 87, 88, 89, 90, 91, 92, 93, 94, 95, 96, 97, 98, 99, 100, 101, 102, 103, 104, 105, 106, 107, 108, 153, 154, 155, 156, 157, 158, 159, 160] (by decide +kernel) (by decide +kernel)
set_option maxRecDepth 20000 in
theorem gX7_bounds_X2_readText : GoodIn wsX7_bounds (wsV RX7 79 RX2 yX2_readText wsX2_readText) := goodIn_app (goodIn_of _ (by decide +kernel)) ggX7_bounds_X2_readText
set_option maxRecDepth 20000 in
theorem ggX7_bounds_X0_enact : GoodIn wsX7_bounds wsX0_enact := goodIn_r _ [113, 114, 115, 116, 117, 118, 119, 120, 121, 122, 112, 123, 124, 125, 126, 127, 128, 129, 130, 131, 132, 133, 134, 135, 136, 90, 91, 92, 146, 147, 148, 149, 150, 151, 152] (by decide +kernel) (by decide +kernel)
set_option maxRecDepth 20000 in
theorem gX7_bounds_X0_enact : GoodIn wsX7_bounds (wsV RX7 90 RX0 yX0_enact wsX0_enact) := goodIn_app (goodIn_of _ (by decide +kernel)) ggX7_bounds_X0_enact
theorem dX7_bounds_0 : decode cX7_bounds 0 = .ok (.aload_n 0, 1) := by decide +kernel
theorem dX7_bounds_1 : decode cX7_bounds 1 = .ok (.getfield 21, 3) := by decide +kernel
theorem dX7_bounds_4 : decode cX7_bounds 4 = .ok (.invokevirtual 79, 3) := by decide +kernel
theorem dX7_bounds_7 : decode cX7_bounds 7 = .ok (.iconst (-1), 1) := by decide +kernel
theorem dX7_bounds_8 : decode cX7_bounds 8 = .ok (.if_icmp .eq 6, 3) := by decide +kernel
theorem dX7_bounds_11 : decode cX7_bounds 11 = .ok (.bipush (-4), 2) := by decide +kernel
theorem dX7_bounds_13 : decode cX7_bounds 13 = .ok (.ireturn, 1) := by decide +kernel
theorem dX7_bounds_14 : decode cX7_bounds 14 = .ok (.aload_n 0, 1) := by decide +kernel
theorem dX7_bounds_15 : decode cX7_bounds 15 = .ok (.getfield 28, 3) := by decide +kernel
theorem dX7_bounds_18 : decode cX7_bounds 18 = .ok (.getfield 83, 3) := by decide +kernel
theorem dX7_bounds_21 : decode cX7_bounds 21 = .ok (.aload_n 0, 1) := by decide +kernel
theorem dX7_bounds_22 : decode cX7_bounds 22 = .ok (.getfield 21, 3) := by decide +kernel
theorem dX7_bounds_25 : decode cX7_bounds 25 = .ok (.getfield 84, 3) := by decide +kernel
theorem dX7_bounds_28 : decode cX7_bounds 28 = .ok (.iadd, 1) := by decide +kernel
theorem dX7_bounds_29 : decode cX7_bounds 29 = .ok (.bipush 20, 2) := by decide +kernel
theorem dX7_bounds_31 : decode cX7_bounds 31 = .ok (.if_icmp .le 6, 3) := by decide +kernel
theorem dX7_bounds_34 : decode cX7_bounds 34 = .ok (.bipush (-5), 2) := by decide +kernel
theorem dX7_bounds_36 : decode cX7_bounds 36 = .ok (.ireturn, 1) := by decide +kernel
theorem dX7_bounds_37 : decode cX7_bounds 37 = .ok (.aload_n 0, 1) := by decide +kernel
theorem dX7_bounds_38 : decode cX7_bounds 38 = .ok (.getfield 28, 3) := by decide +kernel
theorem dX7_bounds_41 : decode cX7_bounds 41 = .ok (.aload_n 0, 1) := by decide +kernel
theorem dX7_bounds_42 : decode cX7_bounds 42 = .ok (.getfield 21, 3) := by decide +kernel
theorem dX7_bounds_45 : decode cX7_bounds 45 = .ok (.getfield 87, 3) := by decide +kernel
theorem dX7_bounds_48 : decode cX7_bounds 48 = .ok (.aload_n 0, 1) := by decide +kernel
theorem dX7_bounds_49 : decode cX7_bounds 49 = .ok (.getfield 21, 3) := by decide +kernel
theorem dX7_bounds_52 : decode cX7_bounds 52 = .ok (.getfield 84, 3) := by decide +kernel
theorem dX7_bounds_55 : decode cX7_bounds 55 = .ok (.invokevirtual 90, 3) := by decide +kernel
theorem dX7_bounds_58 : decode cX7_bounds 58 = .ok (.aload_n 0, 1) := by decide +kernel
theorem dX7_bounds_59 : decode cX7_bounds 59 = .ok (.getfield 12, 3) := by decide +kernel
theorem dX7_bounds_62 : decode cX7_bounds 62 = .ok (.iconst 0, 1) := by decide +kernel
theorem dX7_bounds_63 : decode cX7_bounds 63 = .ok (.putfield 70, 3) := by decide +kernel
theorem dX7_bounds_66 : decode cX7_bounds 66 = .ok (.aload_n 0, 1) := by decide +kernel
theorem dX7_bounds_67 : decode cX7_bounds 67 = .ok (.getfield 28, 3) := by decide +kernel
theorem dX7_bounds_70 : decode cX7_bounds 70 = .ok (.getfield 83, 3) := by decide +kernel
theorem dX7_bounds_73 : decode cX7_bounds 73 = .ok (.ireturn, 1) := by decide +kernel
set_option maxRecDepth 20000 in
theorem ggX7_strike_X7_isNoBound : GoodIn wsX7_strike wsX7_isNoBound := goodIn_r _ [7, 1, 2, 8, 9, 6, 10, 30, 31, 32, 33, 34, 35, 36, 37, 38, 39, 40, 41, 42, 43, 44, 45] (by decide +kernel) (by decide +kernel)
set_option maxRecDepth 20000 in
theorem gX7_strike_X7_isNoBound : GoodIn wsX7_strike (wsV RX7 94 RX7 yX7_isNoBound wsX7_isNoBound) := goodIn_app (goodIn_of _ (by decide +kernel)) ggX7_strike_X7_isNoBound
set_option maxRecDepth 20000 in
theorem ggX7_strike_X0_strikeOut : GoodIn wsX7_strike wsX0_strikeOut := goodIn_r _ [15, 16, 17, 18, 19, 20, 21, 22, 23, 24, 25, 26, 27, 28, 14, 29, 39, 40, 41, 42, 43, 44, 45] (by decide +kernel) (by decide +kernel)
set_option maxRecDepth 20000 in
theorem gX7_strike_X0_strikeOut : GoodIn wsX7_strike (wsV RX7 98 RX0 yX0_strikeOut wsX0_strikeOut) := goodIn_app (goodIn_of _ (by decide +kernel)) ggX7_strike_X0_strikeOut
theorem dX7_strike_0 : decode cX7_strike 0 = .ok (.aload_n 0, 1) := by decide +kernel
theorem dX7_strike_1 : decode cX7_strike 1 = .ok (.iload_n 1, 1) := by decide +kernel
theorem dX7_strike_2 : decode cX7_strike 2 = .ok (.invokevirtual 94, 3) := by decide +kernel
theorem dX7_strike_5 : decode cX7_strike 5 = .ok (.ifCond .eq 6, 3) := by decide +kernel
theorem dX7_strike_8 : decode cX7_strike 8 = .ok (.bipush (-2), 2) := by decide +kernel
theorem dX7_strike_10 : decode cX7_strike 10 = .ok (.ireturn, 1) := by decide +kernel
theorem dX7_strike_11 : decode cX7_strike 11 = .ok (.aload_n 0, 1) := by decide +kernel
theorem dX7_strike_12 : decode cX7_strike 12 = .ok (.getfield 28, 3) := by decide +kernel
theorem dX7_strike_15 : decode cX7_strike 15 = .ok (.iload_n 1, 1) := by decide +kernel
theorem dX7_strike_16 : decode cX7_strike 16 = .ok (.invokevirtual 98, 3) := by decide +kernel
theorem dX7_strike_19 : decode cX7_strike 19 = .ok (.aload_n 0, 1) := by decide +kernel
theorem dX7_strike_20 : decode cX7_strike 20 = .ok (.getfield 28, 3) := by decide +kernel
theorem dX7_strike_23 : decode cX7_strike 23 = .ok (.getfield 83, 3) := by decide +kernel
theorem dX7_strike_26 : decode cX7_strike 26 = .ok (.ireturn, 1) := by decide +kernel
set_option maxRecDepth 20000 in
theorem ggX7_bound_X7_isNoBound : GoodIn wsX7_bound wsX7_isNoBound := goodIn_r _ [6, 1, 7, 8, 9, 5, 10, 17, 18, 19, 20, 21, 22, 23, 24, 25, 26, 27, 28, 29, 30, 31, 32] (by decide +kernel) (by decide +kernel)
set_option maxRecDepth 20000 in
theorem gX7_bound_X7_isNoBound : GoodIn wsX7_bound (wsV RX7 94 RX7 yX7_isNoBound wsX7_isNoBound) := goodIn_app (goodIn_of _ (by decide +kernel)) ggX7_bound_X7_isNoBound
set_option maxRecDepth 20000 in
theorem ggX7_bound_X7_isOff : GoodIn wsX7_bound wsX7_isOff := goodIn_r _ [10] (by decide +kernel) (by decide +kernel)
set_option maxRecDepth 20000 in
theorem gX7_bound_X7_isOff : GoodIn wsX7_bound (va_wsS RX7 66 yX7_isOff wsX7_isOff) := goodIn_app (goodIn_of _ (by decide +kernel)) ggX7_bound_X7_isOff
set_option maxRecDepth 20000 in
theorem ggX7_bound_X0_cell : GoodIn wsX7_bound wsX0_cell := goodIn_r _ [15, 16, 26, 27, 28, 29, 30, 31, 32] (by decide +kernel) (by decide +kernel)
set_option maxRecDepth 20000 in
theorem gX7_bound_X0_cell : GoodIn wsX7_bound (wsV RX7 102 RX0 yX0_cell wsX0_cell) := goodIn_app (goodIn_of _ (by decide +kernel)) ggX7_bound_X0_cell
theorem dX7_bound_0 : decode cX7_bound 0 = .ok (.aload_n 0, 1) := by decide +kernel
theorem dX7_bound_1 : decode cX7_bound 1 = .ok (.iload_n 1, 1) := by decide +kernel
theorem dX7_bound_2 : decode cX7_bound 2 = .ok (.invokevirtual 94, 3) := by decide +kernel
theorem dX7_bound_5 : decode cX7_bound 5 = .ok (.ifCond .eq 6, 3) := by decide +kernel
theorem dX7_bound_8 : decode cX7_bound 8 = .ok (.bipush (-2), 2) := by decide +kernel
theorem dX7_bound_10 : decode cX7_bound 10 = .ok (.ireturn, 1) := by decide +kernel
theorem dX7_bound_11 : decode cX7_bound 11 = .ok (.iload_n 2, 1) := by decide +kernel
theorem dX7_bound_12 : decode cX7_bound 12 = .ok (.iconst 0, 1) := by decide +kernel
theorem dX7_bound_13 : decode cX7_bound 13 = .ok (.bipush 6, 2) := by decide +kernel
theorem dX7_bound_15 : decode cX7_bound 15 = .ok (.invokestatic 66, 3) := by decide +kernel
theorem dX7_bound_18 : decode cX7_bound 18 = .ok (.ifCond .eq 6, 3) := by decide +kernel
theorem dX7_bound_21 : decode cX7_bound 21 = .ok (.bipush (-3), 2) := by decide +kernel
theorem dX7_bound_23 : decode cX7_bound 23 = .ok (.ireturn, 1) := by decide +kernel
theorem dX7_bound_24 : decode cX7_bound 24 = .ok (.aload_n 0, 1) := by decide +kernel
theorem dX7_bound_25 : decode cX7_bound 25 = .ok (.getfield 28, 3) := by decide +kernel
theorem dX7_bound_28 : decode cX7_bound 28 = .ok (.iload_n 1, 1) := by decide +kernel
theorem dX7_bound_29 : decode cX7_bound 29 = .ok (.iload_n 2, 1) := by decide +kernel
theorem dX7_bound_30 : decode cX7_bound 30 = .ok (.invokevirtual 102, 3) := by decide +kernel
theorem dX7_bound_33 : decode cX7_bound 33 = .ok (.ireturn, 1) := by decide +kernel
set_option maxRecDepth 20000 in
theorem ggX7_may_X7_isNoGuild : GoodIn wsX7_may wsX7_isNoGuild := goodIn_r _ [5, 6, 7, 4, 8] (by decide +kernel) (by decide +kernel)
set_option maxRecDepth 20000 in
theorem gX7_may_X7_isNoGuild : GoodIn wsX7_may (va_wsS RX7 106 yX7_isNoGuild wsX7_isNoGuild) := goodIn_app (goodIn_of _ (by decide +kernel)) ggX7_may_X7_isNoGuild
set_option maxRecDepth 20000 in
theorem ggX7_may_X7_isNoWork : GoodIn wsX7_may wsX7_isNoWork := goodIn_r _ [11, 6, 7, 4, 8] (by decide +kernel) (by decide +kernel)
set_option maxRecDepth 20000 in
theorem gX7_may_X7_isNoWork : GoodIn wsX7_may (va_wsS RX7 109 yX7_isNoWork wsX7_isNoWork) := goodIn_app (goodIn_of _ (by decide +kernel)) ggX7_may_X7_isNoWork
set_option maxRecDepth 20000 in
theorem ggX7_may_X0_leave : GoodIn wsX7_may wsX0_leave := goodIn_r _ [16, 17, 18, 19, 15, 20, 21, 22, 23, 24, 25, 26, 27, 28, 29, 30, 31, 32, 33, 34, 35, 36, 37, 38, 48, 49, 50, 51, 52, 53, 54] (by decide +kernel) (by decide +kernel)
set_option maxRecDepth 20000 in
theorem gX7_may_X0_leave : GoodIn wsX7_may (wsV RX7 112 RX0 yX0_leave wsX0_leave) := goodIn_app (goodIn_of _ (by decide +kernel)) ggX7_may_X0_leave
theorem dX7_may_0 : decode cX7_may 0 = .ok (.iload_n 1, 1) := by decide +kernel
theorem dX7_may_1 : decode cX7_may 1 = .ok (.invokestatic 106, 3) := by decide +kernel
theorem dX7_may_4 : decode cX7_may 4 = .ok (.ifCond .ne 10, 3) := by decide +kernel
theorem dX7_may_7 : decode cX7_may 7 = .ok (.iload_n 2, 1) := by decide +kernel
theorem dX7_may_8 : decode cX7_may 8 = .ok (.invokestatic 109, 3) := by decide +kernel
theorem dX7_may_11 : decode cX7_may 11 = .ok (.ifCond .eq 6, 3) := by decide +kernel
theorem dX7_may_14 : decode cX7_may 14 = .ok (.bipush (-2), 2) := by decide +kernel
theorem dX7_may_16 : decode cX7_may 16 = .ok (.ireturn, 1) := by decide +kernel
theorem dX7_may_17 : decode cX7_may 17 = .ok (.aload_n 0, 1) := by decide +kernel
theorem dX7_may_18 : decode cX7_may 18 = .ok (.getfield 28, 3) := by decide +kernel
theorem dX7_may_21 : decode cX7_may 21 = .ok (.iload_n 1, 1) := by decide +kernel
theorem dX7_may_22 : decode cX7_may 22 = .ok (.iload_n 2, 1) := by decide +kernel
theorem dX7_may_23 : decode cX7_may 23 = .ok (.iconst (-1), 1) := by decide +kernel
theorem dX7_may_24 : decode cX7_may 24 = .ok (.invokevirtual 112, 3) := by decide +kernel
theorem dX7_may_27 : decode cX7_may 27 = .ok (.ireturn, 1) := by decide +kernel
set_option maxRecDepth 20000 in
theorem ggX7_why_X7_isNoGuild : GoodIn wsX7_why wsX7_isNoGuild := goodIn_r _ [5, 6, 7, 4, 8] (by decide +kernel) (by decide +kernel)
set_option maxRecDepth 20000 in
theorem gX7_why_X7_isNoGuild : GoodIn wsX7_why (va_wsS RX7 106 yX7_isNoGuild wsX7_isNoGuild) := goodIn_app (goodIn_of _ (by decide +kernel)) ggX7_why_X7_isNoGuild
set_option maxRecDepth 20000 in
theorem ggX7_why_X7_isNoWork : GoodIn wsX7_why wsX7_isNoWork := goodIn_r _ [11, 6, 7, 4, 8] (by decide +kernel) (by decide +kernel)
set_option maxRecDepth 20000 in
theorem gX7_why_X7_isNoWork : GoodIn wsX7_why (va_wsS RX7 109 yX7_isNoWork wsX7_isNoWork) := goodIn_app (goodIn_of _ (by decide +kernel)) ggX7_why_X7_isNoWork
set_option maxRecDepth 20000 in
theorem ggX7_why_X0_deciding : GoodIn wsX7_why wsX0_deciding := goodIn_r _ [16, 17, 18, 19, 20, 21, 22, 23, 24, 25, 26, 27, 28, 29, 39, 40, 41, 42, 43, 44, 45] (by decide +kernel) (by decide +kernel)
set_option maxRecDepth 20000 in
theorem gX7_why_X0_deciding : GoodIn wsX7_why (wsV RX7 116 RX0 yX0_deciding wsX0_deciding) := goodIn_app (goodIn_of _ (by decide +kernel)) ggX7_why_X0_deciding
theorem dX7_why_0 : decode cX7_why 0 = .ok (.iload_n 1, 1) := by decide +kernel
theorem dX7_why_1 : decode cX7_why 1 = .ok (.invokestatic 106, 3) := by decide +kernel
theorem dX7_why_4 : decode cX7_why 4 = .ok (.ifCond .ne 10, 3) := by decide +kernel
theorem dX7_why_7 : decode cX7_why 7 = .ok (.iload_n 2, 1) := by decide +kernel
theorem dX7_why_8 : decode cX7_why 8 = .ok (.invokestatic 109, 3) := by decide +kernel
theorem dX7_why_11 : decode cX7_why 11 = .ok (.ifCond .eq 6, 3) := by decide +kernel
theorem dX7_why_14 : decode cX7_why 14 = .ok (.bipush (-2), 2) := by decide +kernel
theorem dX7_why_16 : decode cX7_why 16 = .ok (.ireturn, 1) := by decide +kernel
theorem dX7_why_17 : decode cX7_why 17 = .ok (.aload_n 0, 1) := by decide +kernel
theorem dX7_why_18 : decode cX7_why 18 = .ok (.getfield 28, 3) := by decide +kernel
theorem dX7_why_21 : decode cX7_why 21 = .ok (.iload_n 1, 1) := by decide +kernel
theorem dX7_why_22 : decode cX7_why 22 = .ok (.iload_n 2, 1) := by decide +kernel
theorem dX7_why_23 : decode cX7_why 23 = .ok (.iconst (-1), 1) := by decide +kernel
theorem dX7_why_24 : decode cX7_why 24 = .ok (.invokevirtual 116, 3) := by decide +kernel
theorem dX7_why_27 : decode cX7_why 27 = .ok (.ireturn, 1) := by decide +kernel
set_option maxRecDepth 20000 in
theorem ggX7_who_X7_isNoWork : GoodIn wsX7_who wsX7_isNoWork := goodIn_r _ [5, 6, 7, 4, 8] (by decide +kernel) (by decide +kernel)
set_option maxRecDepth 20000 in
theorem gX7_who_X7_isNoWork : GoodIn wsX7_who (va_wsS RX7 109 yX7_isNoWork wsX7_isNoWork) := goodIn_app (goodIn_of _ (by decide +kernel)) ggX7_who_X7_isNoWork
set_option maxRecDepth 20000 in
theorem ggX7_who_X0_guildsThatMay : GoodIn wsX7_who wsX0_guildsThatMay := goodIn_r _ [13, 14, 15, 16, 12, 17, 18, 19, 20, 21, 22, 23, 24, 25, 26, 27, 28, 29, 30, 31, 32, 33, 34, 35, 36, 37, 38, 39, 49, 50, 51, 52, 53, 54, 55] (by decide +kernel) (by decide +kernel)
set_option maxRecDepth 20000 in
theorem gX7_who_X0_guildsThatMay : GoodIn wsX7_who (wsV RX7 119 RX0 yX0_guildsThatMay wsX0_guildsThatMay) := goodIn_app (goodIn_of _ (by decide +kernel)) ggX7_who_X0_guildsThatMay
theorem dX7_who_0 : decode cX7_who 0 = .ok (.iload_n 1, 1) := by decide +kernel
theorem dX7_who_1 : decode cX7_who 1 = .ok (.invokestatic 109, 3) := by decide +kernel
theorem dX7_who_4 : decode cX7_who 4 = .ok (.ifCond .eq 6, 3) := by decide +kernel
theorem dX7_who_7 : decode cX7_who 7 = .ok (.bipush (-2), 2) := by decide +kernel
theorem dX7_who_9 : decode cX7_who 9 = .ok (.ireturn, 1) := by decide +kernel
theorem dX7_who_10 : decode cX7_who 10 = .ok (.aload_n 0, 1) := by decide +kernel
theorem dX7_who_11 : decode cX7_who 11 = .ok (.getfield 28, 3) := by decide +kernel
theorem dX7_who_14 : decode cX7_who 14 = .ok (.iload_n 1, 1) := by decide +kernel
theorem dX7_who_15 : decode cX7_who 15 = .ok (.invokevirtual 119, 3) := by decide +kernel
theorem dX7_who_18 : decode cX7_who 18 = .ok (.ireturn, 1) := by decide +kernel
set_option maxRecDepth 20000 in
theorem ggX7_works_X7_isOff : GoodIn wsX7_works wsX7_isOff := goodIn_r _ [5] (by decide +kernel) (by decide +kernel)
set_option maxRecDepth 20000 in
theorem gX7_works_X7_isOff : GoodIn wsX7_works (va_wsS RX7 66 yX7_isOff wsX7_isOff) := goodIn_app (goodIn_of _ (by decide +kernel)) ggX7_works_X7_isOff
set_option maxRecDepth 20000 in
theorem ggX7_works_X0_isOfKind : GoodIn wsX7_works wsX0_isOfKind := goodIn_r _ [10, 11, 12, 13, 9, 14, 15, 16, 17, 18, 19, 20, 21, 22, 23, 24, 25, 26, 27, 28, 29, 30, 31, 32, 33, 34, 35, 36, 37, 38, 39, 40, 41, 42, 43, 44, 45, 46, 47, 48, 49, 50, 60, 61, 62, 63, 64, 65, 66] (by decide +kernel) (by decide +kernel)
set_option maxRecDepth 20000 in
theorem gX7_works_X0_isOfKind : GoodIn wsX7_works (wsV RX7 123 RX0 yX0_isOfKind wsX0_isOfKind) := goodIn_app (goodIn_of _ (by decide +kernel)) ggX7_works_X0_isOfKind
theorem dX7_works_0 : decode cX7_works 0 = .ok (.iload_n 1, 1) := by decide +kernel
theorem dX7_works_1 : decode cX7_works 1 = .ok (.iconst 0, 1) := by decide +kernel
theorem dX7_works_2 : decode cX7_works 2 = .ok (.iconst 2, 1) := by decide +kernel
theorem dX7_works_3 : decode cX7_works 3 = .ok (.invokestatic 66, 3) := by decide +kernel
theorem dX7_works_6 : decode cX7_works 6 = .ok (.ifCond .ne 8, 3) := by decide +kernel
theorem dX7_works_9 : decode cX7_works 9 = .ok (.iload_n 2, 1) := by decide +kernel
theorem dX7_works_10 : decode cX7_works 10 = .ok (.iconst (-1), 1) := by decide +kernel
theorem dX7_works_11 : decode cX7_works 11 = .ok (.if_icmp .ge 6, 3) := by decide +kernel
theorem dX7_works_14 : decode cX7_works 14 = .ok (.bipush (-3), 2) := by decide +kernel
theorem dX7_works_16 : decode cX7_works 16 = .ok (.ireturn, 1) := by decide +kernel
theorem dX7_works_17 : decode cX7_works 17 = .ok (.iconst 0, 1) := by decide +kernel
theorem dX7_works_18 : decode cX7_works 18 = .ok (.istore_n 3, 1) := by decide +kernel
theorem dX7_works_19 : decode cX7_works 19 = .ok (.iconst 0, 1) := by decide +kernel
theorem dX7_works_20 : decode cX7_works 20 = .ok (.istore 4, 2) := by decide +kernel
theorem dX7_works_22 : decode cX7_works 22 = .ok (.iload 4, 2) := by decide +kernel
theorem dX7_works_24 : decode cX7_works 24 = .ok (.sipush 240, 3) := by decide +kernel
theorem dX7_works_27 : decode cX7_works 27 = .ok (.if_icmp .ge 33, 3) := by decide +kernel
theorem dX7_works_30 : decode cX7_works 30 = .ok (.aload_n 0, 1) := by decide +kernel
theorem dX7_works_31 : decode cX7_works 31 = .ok (.getfield 28, 3) := by decide +kernel
theorem dX7_works_34 : decode cX7_works 34 = .ok (.iload 4, 2) := by decide +kernel
theorem dX7_works_36 : decode cX7_works 36 = .ok (.iload_n 1, 1) := by decide +kernel
theorem dX7_works_37 : decode cX7_works 37 = .ok (.invokevirtual 123, 3) := by decide +kernel
theorem dX7_works_40 : decode cX7_works 40 = .ok (.ifCond .eq 14, 3) := by decide +kernel
theorem dX7_works_43 : decode cX7_works 43 = .ok (.iload_n 3, 1) := by decide +kernel
theorem dX7_works_44 : decode cX7_works 44 = .ok (.iload_n 2, 1) := by decide +kernel
theorem dX7_works_45 : decode cX7_works 45 = .ok (.if_icmp .ne 6, 3) := by decide +kernel
theorem dX7_works_48 : decode cX7_works 48 = .ok (.iload 4, 2) := by decide +kernel
theorem dX7_works_50 : decode cX7_works 50 = .ok (.ireturn, 1) := by decide +kernel
theorem dX7_works_51 : decode cX7_works 51 = .ok (.iinc 3 1, 3) := by decide +kernel
theorem dX7_works_54 : decode cX7_works 54 = .ok (.iinc 4 1, 3) := by decide +kernel
theorem dX7_works_57 : decode cX7_works 57 = .ok (.goto (-35), 3) := by decide +kernel
theorem dX7_works_60 : decode cX7_works 60 = .ok (.iload_n 2, 1) := by decide +kernel
theorem dX7_works_61 : decode cX7_works 61 = .ok (.iconst (-1), 1) := by decide +kernel
theorem dX7_works_62 : decode cX7_works 62 = .ok (.if_icmp .ne 7, 3) := by decide +kernel
theorem dX7_works_65 : decode cX7_works 65 = .ok (.iload_n 3, 1) := by decide +kernel
theorem dX7_works_66 : decode cX7_works 66 = .ok (.goto 4, 3) := by decide +kernel
theorem dX7_works_69 : decode cX7_works 69 = .ok (.iconst (-1), 1) := by decide +kernel
theorem dX7_works_70 : decode cX7_works 70 = .ok (.ireturn, 1) := by decide +kernel
set_option maxRecDepth 20000 in
theorem ggX7_step_X7_isNoThing : GoodIn wsX7_step wsX7_isNoThing := goodIn_r _ [6, 7, 8, 5, 9] (by decide +kernel) (by decide +kernel)
set_option maxRecDepth 20000 in
theorem gX7_step_X7_isNoThing : GoodIn wsX7_step (va_wsS RX7 127 yX7_isNoThing wsX7_isNoThing) := goodIn_app (goodIn_of _ (by decide +kernel)) ggX7_step_X7_isNoThing
set_option maxRecDepth 20000 in
theorem ggX7_step_X7_isNoWork : GoodIn wsX7_step wsX7_isNoWork := goodIn_r _ [12, 7, 8, 5, 9] (by decide +kernel) (by decide +kernel)
set_option maxRecDepth 20000 in
theorem gX7_step_X7_isNoWork : GoodIn wsX7_step (va_wsS RX7 109 yX7_isNoWork wsX7_isNoWork) := goodIn_app (goodIn_of _ (by decide +kernel)) ggX7_step_X7_isNoWork
set_option maxRecDepth 20000 in
theorem ggX7_step_X6_addStep : GoodIn wsX7_step wsX6_addStep := goodIn_r _ [17, 18, 19, 29, 30] (by decide +kernel) (by decide +kernel)
set_option maxRecDepth 20000 in
theorem gX7_step_X6_addStep : GoodIn wsX7_step (wsV RX7 131 RX6 yX6_addStep wsX6_addStep) := goodIn_app (goodIn_of _ (by decide +kernel)) ggX7_step_X6_addStep
theorem dX7_step_0 : decode cX7_step 0 = .ok (.iload_n 1, 1) := by decide +kernel
theorem dX7_step_1 : decode cX7_step 1 = .ok (.invokestatic 127, 3) := by decide +kernel
theorem dX7_step_4 : decode cX7_step 4 = .ok (.ifCond .ne 22, 3) := by decide +kernel
theorem dX7_step_7 : decode cX7_step 7 = .ok (.iload_n 2, 1) := by decide +kernel
theorem dX7_step_8 : decode cX7_step 8 = .ok (.invokestatic 109, 3) := by decide +kernel
theorem dX7_step_11 : decode cX7_step 11 = .ok (.ifCond .ne 15, 3) := by decide +kernel
theorem dX7_step_14 : decode cX7_step 14 = .ok (.iload_n 3, 1) := by decide +kernel
theorem dX7_step_15 : decode cX7_step 15 = .ok (.iconst (-1), 1) := by decide +kernel
theorem dX7_step_16 : decode cX7_step 16 = .ok (.if_icmp .eq 13, 3) := by decide +kernel
theorem dX7_step_19 : decode cX7_step 19 = .ok (.iload_n 3, 1) := by decide +kernel
theorem dX7_step_20 : decode cX7_step 20 = .ok (.invokestatic 109, 3) := by decide +kernel
theorem dX7_step_23 : decode cX7_step 23 = .ok (.ifCond .eq 6, 3) := by decide +kernel
theorem dX7_step_26 : decode cX7_step 26 = .ok (.bipush (-2), 2) := by decide +kernel
theorem dX7_step_28 : decode cX7_step 28 = .ok (.ireturn, 1) := by decide +kernel
theorem dX7_step_29 : decode cX7_step 29 = .ok (.aload_n 0, 1) := by decide +kernel
theorem dX7_step_30 : decode cX7_step 30 = .ok (.getfield 50, 3) := by decide +kernel
theorem dX7_step_33 : decode cX7_step 33 = .ok (.iload_n 1, 1) := by decide +kernel
theorem dX7_step_34 : decode cX7_step 34 = .ok (.aaload, 1) := by decide +kernel
theorem dX7_step_35 : decode cX7_step 35 = .ok (.astore 4, 2) := by decide +kernel
theorem dX7_step_37 : decode cX7_step 37 = .ok (.aload 4, 2) := by decide +kernel
theorem dX7_step_39 : decode cX7_step 39 = .ok (.getfield 130, 3) := by decide +kernel
theorem dX7_step_42 : decode cX7_step 42 = .ok (.bipush 8, 2) := by decide +kernel
theorem dX7_step_44 : decode cX7_step 44 = .ok (.if_icmp .ne 6, 3) := by decide +kernel
theorem dX7_step_47 : decode cX7_step 47 = .ok (.bipush (-5), 2) := by decide +kernel
theorem dX7_step_49 : decode cX7_step 49 = .ok (.ireturn, 1) := by decide +kernel
theorem dX7_step_50 : decode cX7_step 50 = .ok (.aload 4, 2) := by decide +kernel
theorem dX7_step_52 : decode cX7_step 52 = .ok (.iload_n 2, 1) := by decide +kernel
theorem dX7_step_53 : decode cX7_step 53 = .ok (.iload_n 3, 1) := by decide +kernel
theorem dX7_step_54 : decode cX7_step 54 = .ok (.invokevirtual 131, 3) := by decide +kernel
theorem dX7_step_57 : decode cX7_step 57 = .ok (.aload 4, 2) := by decide +kernel
theorem dX7_step_59 : decode cX7_step 59 = .ok (.getfield 130, 3) := by decide +kernel
theorem dX7_step_62 : decode cX7_step 62 = .ok (.ireturn, 1) := by decide +kernel
set_option maxRecDepth 20000 in
theorem ggX7_clear_X7_isNoThing : GoodIn wsX7_clear wsX7_isNoThing := goodIn_r _ [6, 7, 8, 5, 9] (by decide +kernel) (by decide +kernel)
set_option maxRecDepth 20000 in
theorem gX7_clear_X7_isNoThing : GoodIn wsX7_clear (va_wsS RX7 127 yX7_isNoThing wsX7_isNoThing) := goodIn_app (goodIn_of _ (by decide +kernel)) ggX7_clear_X7_isNoThing
theorem dX7_clear_0 : decode cX7_clear 0 = .ok (.iload_n 1, 1) := by decide +kernel
theorem dX7_clear_1 : decode cX7_clear 1 = .ok (.invokestatic 127, 3) := by decide +kernel
theorem dX7_clear_4 : decode cX7_clear 4 = .ok (.ifCond .eq 6, 3) := by decide +kernel
theorem dX7_clear_7 : decode cX7_clear 7 = .ok (.bipush (-2), 2) := by decide +kernel
theorem dX7_clear_9 : decode cX7_clear 9 = .ok (.ireturn, 1) := by decide +kernel
theorem dX7_clear_10 : decode cX7_clear 10 = .ok (.aload_n 0, 1) := by decide +kernel
theorem dX7_clear_11 : decode cX7_clear 11 = .ok (.getfield 50, 3) := by decide +kernel
theorem dX7_clear_14 : decode cX7_clear 14 = .ok (.iload_n 1, 1) := by decide +kernel
theorem dX7_clear_15 : decode cX7_clear 15 = .ok (.aaload, 1) := by decide +kernel
theorem dX7_clear_16 : decode cX7_clear 16 = .ok (.getfield 130, 3) := by decide +kernel
theorem dX7_clear_19 : decode cX7_clear 19 = .ok (.istore_n 2, 1) := by decide +kernel
theorem dX7_clear_20 : decode cX7_clear 20 = .ok (.aload_n 0, 1) := by decide +kernel
theorem dX7_clear_21 : decode cX7_clear 21 = .ok (.getfield 50, 3) := by decide +kernel
theorem dX7_clear_24 : decode cX7_clear 24 = .ok (.iload_n 1, 1) := by decide +kernel
theorem dX7_clear_25 : decode cX7_clear 25 = .ok (.aaload, 1) := by decide +kernel
theorem dX7_clear_26 : decode cX7_clear 26 = .ok (.iconst 0, 1) := by decide +kernel
theorem dX7_clear_27 : decode cX7_clear 27 = .ok (.putfield 130, 3) := by decide +kernel
theorem dX7_clear_30 : decode cX7_clear 30 = .ok (.iload_n 2, 1) := by decide +kernel
theorem dX7_clear_31 : decode cX7_clear 31 = .ok (.ireturn, 1) := by decide +kernel
set_option maxRecDepth 20000 in
theorem ggX7_price_X7_isNoGuild : GoodIn wsX7_price wsX7_isNoGuild := goodIn_r _ [6, 7, 8, 5, 9] (by decide +kernel) (by decide +kernel)
set_option maxRecDepth 20000 in
theorem gX7_price_X7_isNoGuild : GoodIn wsX7_price (va_wsS RX7 106 yX7_isNoGuild wsX7_isNoGuild) := goodIn_app (goodIn_of _ (by decide +kernel)) ggX7_price_X7_isNoGuild
set_option maxRecDepth 20000 in
theorem ggX7_price_X7_isOff : GoodIn wsX7_price wsX7_isOff := goodIn_r _ [9] (by decide +kernel) (by decide +kernel)
set_option maxRecDepth 20000 in
theorem gX7_price_X7_isOff : GoodIn wsX7_price (va_wsS RX7 66 yX7_isOff wsX7_isOff) := goodIn_app (goodIn_of _ (by decide +kernel)) ggX7_price_X7_isOff
theorem dX7_price_0 : decode cX7_price 0 = .ok (.iload_n 1, 1) := by decide +kernel
theorem dX7_price_1 : decode cX7_price 1 = .ok (.invokestatic 106, 3) := by decide +kernel
theorem dX7_price_4 : decode cX7_price 4 = .ok (.ifCond .eq 6, 3) := by decide +kernel
theorem dX7_price_7 : decode cX7_price 7 = .ok (.bipush (-2), 2) := by decide +kernel
theorem dX7_price_9 : decode cX7_price 9 = .ok (.ireturn, 1) := by decide +kernel
theorem dX7_price_10 : decode cX7_price 10 = .ok (.iload_n 2, 1) := by decide +kernel
theorem dX7_price_11 : decode cX7_price 11 = .ok (.iconst 0, 1) := by decide +kernel
theorem dX7_price_12 : decode cX7_price 12 = .ok (.iconst 5, 1) := by decide +kernel
theorem dX7_price_13 : decode cX7_price 13 = .ok (.invokestatic 66, 3) := by decide +kernel
theorem dX7_price_16 : decode cX7_price 16 = .ok (.ifCond .ne 13, 3) := by decide +kernel
theorem dX7_price_19 : decode cX7_price 19 = .ok (.iload_n 3, 1) := by decide +kernel
theorem dX7_price_20 : decode cX7_price 20 = .ok (.iconst 0, 1) := by decide +kernel
theorem dX7_price_21 : decode cX7_price 21 = .ok (.bipush 99, 2) := by decide +kernel
theorem dX7_price_23 : decode cX7_price 23 = .ok (.invokestatic 66, 3) := by decide +kernel
theorem dX7_price_26 : decode cX7_price 26 = .ok (.ifCond .eq 6, 3) := by decide +kernel
theorem dX7_price_29 : decode cX7_price 29 = .ok (.bipush (-3), 2) := by decide +kernel
theorem dX7_price_31 : decode cX7_price 31 = .ok (.ireturn, 1) := by decide +kernel
theorem dX7_price_32 : decode cX7_price 32 = .ok (.aload_n 0, 1) := by decide +kernel
theorem dX7_price_33 : decode cX7_price 33 = .ok (.getfield 35, 3) := by decide +kernel
theorem dX7_price_36 : decode cX7_price 36 = .ok (.getfield 135, 3) := by decide +kernel
theorem dX7_price_39 : decode cX7_price 39 = .ok (.iload_n 1, 1) := by decide +kernel
theorem dX7_price_40 : decode cX7_price 40 = .ok (.bipush 6, 2) := by decide +kernel
theorem dX7_price_42 : decode cX7_price 42 = .ok (.imul, 1) := by decide +kernel
theorem dX7_price_43 : decode cX7_price 43 = .ok (.iload_n 2, 1) := by decide +kernel
theorem dX7_price_44 : decode cX7_price 44 = .ok (.iadd, 1) := by decide +kernel
theorem dX7_price_45 : decode cX7_price 45 = .ok (.iaload, 1) := by decide +kernel
theorem dX7_price_46 : decode cX7_price 46 = .ok (.istore 4, 2) := by decide +kernel
theorem dX7_price_48 : decode cX7_price 48 = .ok (.aload_n 0, 1) := by decide +kernel
theorem dX7_price_49 : decode cX7_price 49 = .ok (.getfield 35, 3) := by decide +kernel
theorem dX7_price_52 : decode cX7_price 52 = .ok (.getfield 135, 3) := by decide +kernel
theorem dX7_price_55 : decode cX7_price 55 = .ok (.iload_n 1, 1) := by decide +kernel
theorem dX7_price_56 : decode cX7_price 56 = .ok (.bipush 6, 2) := by decide +kernel
theorem dX7_price_58 : decode cX7_price 58 = .ok (.imul, 1) := by decide +kernel
theorem dX7_price_59 : decode cX7_price 59 = .ok (.iload_n 2, 1) := by decide +kernel
theorem dX7_price_60 : decode cX7_price 60 = .ok (.iadd, 1) := by decide +kernel
theorem dX7_price_61 : decode cX7_price 61 = .ok (.iload_n 3, 1) := by decide +kernel
theorem dX7_price_62 : decode cX7_price 62 = .ok (.iastore, 1) := by decide +kernel
theorem dX7_price_63 : decode cX7_price 63 = .ok (.iload 4, 2) := by decide +kernel
theorem dX7_price_65 : decode cX7_price 65 = .ok (.ireturn, 1) := by decide +kernel
set_option maxRecDepth 20000 in
theorem ggX7_days_X7_isNoGuild : GoodIn wsX7_days wsX7_isNoGuild := goodIn_r _ [6, 7, 8, 5, 9] (by decide +kernel) (by decide +kernel)
set_option maxRecDepth 20000 in
theorem gX7_days_X7_isNoGuild : GoodIn wsX7_days (va_wsS RX7 106 yX7_isNoGuild wsX7_isNoGuild) := goodIn_app (goodIn_of _ (by decide +kernel)) ggX7_days_X7_isNoGuild
set_option maxRecDepth 20000 in
theorem ggX7_days_X7_isOff : GoodIn wsX7_days wsX7_isOff := goodIn_r _ [9] (by decide +kernel) (by decide +kernel)
set_option maxRecDepth 20000 in
theorem gX7_days_X7_isOff : GoodIn wsX7_days (va_wsS RX7 66 yX7_isOff wsX7_isOff) := goodIn_app (goodIn_of _ (by decide +kernel)) ggX7_days_X7_isOff
theorem dX7_days_0 : decode cX7_days 0 = .ok (.iload_n 1, 1) := by decide +kernel
theorem dX7_days_1 : decode cX7_days 1 = .ok (.invokestatic 106, 3) := by decide +kernel
theorem dX7_days_4 : decode cX7_days 4 = .ok (.ifCond .eq 6, 3) := by decide +kernel
theorem dX7_days_7 : decode cX7_days 7 = .ok (.bipush (-2), 2) := by decide +kernel
theorem dX7_days_9 : decode cX7_days 9 = .ok (.ireturn, 1) := by decide +kernel
theorem dX7_days_10 : decode cX7_days 10 = .ok (.iload_n 2, 1) := by decide +kernel
theorem dX7_days_11 : decode cX7_days 11 = .ok (.iconst 1, 1) := by decide +kernel
theorem dX7_days_12 : decode cX7_days 12 = .ok (.bipush 9, 2) := by decide +kernel
theorem dX7_days_14 : decode cX7_days 14 = .ok (.invokestatic 66, 3) := by decide +kernel
theorem dX7_days_17 : decode cX7_days 17 = .ok (.ifCond .eq 6, 3) := by decide +kernel
theorem dX7_days_20 : decode cX7_days 20 = .ok (.bipush (-3), 2) := by decide +kernel
theorem dX7_days_22 : decode cX7_days 22 = .ok (.ireturn, 1) := by decide +kernel
theorem dX7_days_23 : decode cX7_days 23 = .ok (.aload_n 0, 1) := by decide +kernel
theorem dX7_days_24 : decode cX7_days 24 = .ok (.getfield 35, 3) := by decide +kernel
theorem dX7_days_27 : decode cX7_days 27 = .ok (.getfield 138, 3) := by decide +kernel
theorem dX7_days_30 : decode cX7_days 30 = .ok (.iload_n 1, 1) := by decide +kernel
theorem dX7_days_31 : decode cX7_days 31 = .ok (.iaload, 1) := by decide +kernel
theorem dX7_days_32 : decode cX7_days 32 = .ok (.istore_n 3, 1) := by decide +kernel
theorem dX7_days_33 : decode cX7_days 33 = .ok (.aload_n 0, 1) := by decide +kernel
theorem dX7_days_34 : decode cX7_days 34 = .ok (.getfield 35, 3) := by decide +kernel
theorem dX7_days_37 : decode cX7_days 37 = .ok (.getfield 138, 3) := by decide +kernel
theorem dX7_days_40 : decode cX7_days 40 = .ok (.iload_n 1, 1) := by decide +kernel
theorem dX7_days_41 : decode cX7_days 41 = .ok (.iload_n 2, 1) := by decide +kernel
theorem dX7_days_42 : decode cX7_days 42 = .ok (.iastore, 1) := by decide +kernel
theorem dX7_days_43 : decode cX7_days 43 = .ok (.iload_n 3, 1) := by decide +kernel
theorem dX7_days_44 : decode cX7_days 44 = .ok (.ireturn, 1) := by decide +kernel

theorem dX7_yearly_23 : decode cX7_yearly 23 = .ok (.getfield 28, 3) := by decide +kernel
theorem dX7_yearly_26 : decode cX7_yearly 26 = .ok (.iload_n 1, 1) := by decide +kernel
theorem dX7_yearly_27 : decode cX7_yearly 27 = .ok (.aload_n 0, 1) := by decide +kernel
theorem dX7_yearly_28 : decode cX7_yearly 28 = .ok (.getfield 62, 3) := by decide +kernel
theorem dX7_yearly_31 : decode cX7_yearly 31 = .ok (.iload_n 3, 1) := by decide +kernel
theorem dX7_yearly_32 : decode cX7_yearly 32 = .ok (.iaload, 1) := by decide +kernel
theorem dX7_yearly_33 : decode cX7_yearly 33 = .ok (.iconst (-1), 1) := by decide +kernel
theorem dX7_yearly_34 : decode cX7_yearly 34 = .ok (.invokevirtual 112, 3) := by decide +kernel
theorem dX7_yearly_37 : decode cX7_yearly 37 = .ok (.ifCond .eq 6, 3) := by decide +kernel
theorem dX7_yearly_40 : decode cX7_yearly 40 = .ok (.iinc 2 1, 3) := by decide +kernel
theorem dX7_yearly_43 : decode cX7_yearly 43 = .ok (.iinc 3 1, 3) := by decide +kernel
theorem dX7_yearly_46 : decode cX7_yearly 46 = .ok (.goto (-32), 3) := by decide +kernel
theorem dX7_yearly_49 : decode cX7_yearly 49 = .ok (.iload_n 2, 1) := by decide +kernel
theorem dX7_yearly_50 : decode cX7_yearly 50 = .ok (.ireturn, 1) := by decide +kernel
set_option maxRecDepth 20000 in
theorem ggX7_count_X7_isOff : GoodIn wsX7_count wsX7_isOff := goodIn_r _ [13] (by decide +kernel) (by decide +kernel)
set_option maxRecDepth 20000 in
theorem gX7_count_X7_isOff : GoodIn wsX7_count (va_wsS RX7 66 yX7_isOff wsX7_isOff) := goodIn_app (goodIn_of _ (by decide +kernel)) ggX7_count_X7_isOff
theorem dX7_count_0 : decode cX7_count 0 = .ok (.iload_n 1, 1) := by decide +kernel
theorem dX7_count_1 : decode cX7_count 1 = .ok (.iconst 0, 1) := by decide +kernel
theorem dX7_count_2 : decode cX7_count 2 = .ok (.bipush 9, 2) := by decide +kernel
theorem dX7_count_4 : decode cX7_count 4 = .ok (.invokestatic 66, 3) := by decide +kernel
theorem dX7_count_7 : decode cX7_count 7 = .ok (.ifCond .eq 6, 3) := by decide +kernel
theorem dX7_count_10 : decode cX7_count 10 = .ok (.bipush (-3), 2) := by decide +kernel
theorem dX7_count_12 : decode cX7_count 12 = .ok (.ireturn, 1) := by decide +kernel
theorem dX7_count_13 : decode cX7_count 13 = .ok (.iload_n 1, 1) := by decide +kernel
theorem dX7_count_14 : decode cX7_count 14 = .ok (.tableswitch 59 0 3 #[30, 38, 46, 54], 30) := by decide +kernel
theorem dX7_count_44 : decode cX7_count 44 = .ok (.aload_n 0, 1) := by decide +kernel
theorem dX7_count_45 : decode cX7_count 45 = .ok (.getfield 28, 3) := by decide +kernel
theorem dX7_count_48 : decode cX7_count 48 = .ok (.getfield 83, 3) := by decide +kernel
theorem dX7_count_51 : decode cX7_count 51 = .ok (.ireturn, 1) := by decide +kernel
theorem dX7_count_52 : decode cX7_count 52 = .ok (.aload_n 0, 1) := by decide +kernel
theorem dX7_count_53 : decode cX7_count 53 = .ok (.getfield 12, 3) := by decide +kernel
theorem dX7_count_56 : decode cX7_count 56 = .ok (.getfield 70, 3) := by decide +kernel
theorem dX7_count_59 : decode cX7_count 59 = .ok (.ireturn, 1) := by decide +kernel
theorem dX7_count_60 : decode cX7_count 60 = .ok (.aload_n 0, 1) := by decide +kernel
theorem dX7_count_61 : decode cX7_count 61 = .ok (.getfield 58, 3) := by decide +kernel
theorem dX7_count_64 : decode cX7_count 64 = .ok (.getfield 198, 3) := by decide +kernel
theorem dX7_count_67 : decode cX7_count 67 = .ok (.ireturn, 1) := by decide +kernel
theorem dX7_count_68 : decode cX7_count 68 = .ok (.aload_n 0, 1) := by decide +kernel
theorem dX7_count_69 : decode cX7_count 69 = .ok (.getfield 211, 3) := by decide +kernel
theorem dX7_count_72 : decode cX7_count 72 = .ok (.ireturn, 1) := by decide +kernel
theorem dX7_count_73 : decode cX7_count 73 = .ok (.aload_n 0, 1) := by decide +kernel
theorem dX7_count_74 : decode cX7_count 74 = .ok (.getfield 50, 3) := by decide +kernel
theorem dX7_count_77 : decode cX7_count 77 = .ok (.iload_n 1, 1) := by decide +kernel
theorem dX7_count_78 : decode cX7_count 78 = .ok (.iconst 4, 1) := by decide +kernel
theorem dX7_count_79 : decode cX7_count 79 = .ok (.isub, 1) := by decide +kernel
theorem dX7_count_80 : decode cX7_count 80 = .ok (.aaload, 1) := by decide +kernel
theorem dX7_count_81 : decode cX7_count 81 = .ok (.getfield 130, 3) := by decide +kernel
theorem dX7_count_84 : decode cX7_count 84 = .ok (.ireturn, 1) := by decide +kernel
theorem dX7_isOff_0 : decode cX7_isOff 0 = .ok (.iload_n 0, 1) := by decide +kernel
theorem dX7_isOff_1 : decode cX7_isOff 1 = .ok (.iload_n 1, 1) := by decide +kernel
theorem dX7_isOff_2 : decode cX7_isOff 2 = .ok (.if_icmp .lt 8, 3) := by decide +kernel
theorem dX7_isOff_5 : decode cX7_isOff 5 = .ok (.iload_n 0, 1) := by decide +kernel
theorem dX7_isOff_6 : decode cX7_isOff 6 = .ok (.iload_n 2, 1) := by decide +kernel
theorem dX7_isOff_7 : decode cX7_isOff 7 = .ok (.if_icmp .le 7, 3) := by decide +kernel
theorem dX7_isOff_10 : decode cX7_isOff 10 = .ok (.iconst 1, 1) := by decide +kernel
theorem dX7_isOff_11 : decode cX7_isOff 11 = .ok (.goto 4, 3) := by decide +kernel
theorem dX7_isOff_14 : decode cX7_isOff 14 = .ok (.iconst 0, 1) := by decide +kernel
theorem dX7_isOff_15 : decode cX7_isOff 15 = .ok (.ireturn, 1) := by decide +kernel
set_option maxRecDepth 20000 in
theorem ggX7_isNoGuild_X7_isOff : GoodIn wsX7_isNoGuild wsX7_isOff := goodIn_r _ [4] (by decide +kernel) (by decide +kernel)
set_option maxRecDepth 20000 in
theorem gX7_isNoGuild_X7_isOff : GoodIn wsX7_isNoGuild (va_wsS RX7 66 yX7_isOff wsX7_isOff) := goodIn_app (goodIn_of _ (by decide +kernel)) ggX7_isNoGuild_X7_isOff
theorem dX7_isNoGuild_0 : decode cX7_isNoGuild 0 = .ok (.iload_n 0, 1) := by decide +kernel
theorem dX7_isNoGuild_1 : decode cX7_isNoGuild 1 = .ok (.iconst 0, 1) := by decide +kernel
theorem dX7_isNoGuild_2 : decode cX7_isNoGuild 2 = .ok (.iconst 5, 1) := by decide +kernel
theorem dX7_isNoGuild_3 : decode cX7_isNoGuild 3 = .ok (.invokestatic 66, 3) := by decide +kernel
theorem dX7_isNoGuild_6 : decode cX7_isNoGuild 6 = .ok (.ireturn, 1) := by decide +kernel
set_option maxRecDepth 20000 in
theorem ggX7_isNoWork_X7_isOff : GoodIn wsX7_isNoWork wsX7_isOff := goodIn_r _ [4] (by decide +kernel) (by decide +kernel)
set_option maxRecDepth 20000 in
theorem gX7_isNoWork_X7_isOff : GoodIn wsX7_isNoWork (va_wsS RX7 66 yX7_isOff wsX7_isOff) := goodIn_app (goodIn_of _ (by decide +kernel)) ggX7_isNoWork_X7_isOff
theorem dX7_isNoWork_0 : decode cX7_isNoWork 0 = .ok (.iload_n 0, 1) := by decide +kernel
theorem dX7_isNoWork_1 : decode cX7_isNoWork 1 = .ok (.iconst 0, 1) := by decide +kernel
theorem dX7_isNoWork_2 : decode cX7_isNoWork 2 = .ok (.sipush 239, 3) := by decide +kernel
theorem dX7_isNoWork_5 : decode cX7_isNoWork 5 = .ok (.invokestatic 66, 3) := by decide +kernel
theorem dX7_isNoWork_8 : decode cX7_isNoWork 8 = .ok (.ireturn, 1) := by decide +kernel
set_option maxRecDepth 20000 in
theorem ggX7_isNoThing_X7_isOff : GoodIn wsX7_isNoThing wsX7_isOff := goodIn_r _ [4] (by decide +kernel) (by decide +kernel)
set_option maxRecDepth 20000 in
theorem gX7_isNoThing_X7_isOff : GoodIn wsX7_isNoThing (va_wsS RX7 66 yX7_isOff wsX7_isOff) := goodIn_app (goodIn_of _ (by decide +kernel)) ggX7_isNoThing_X7_isOff
theorem dX7_isNoThing_0 : decode cX7_isNoThing 0 = .ok (.iload_n 0, 1) := by decide +kernel
theorem dX7_isNoThing_1 : decode cX7_isNoThing 1 = .ok (.iconst 0, 1) := by decide +kernel
theorem dX7_isNoThing_2 : decode cX7_isNoThing 2 = .ok (.iconst 5, 1) := by decide +kernel
theorem dX7_isNoThing_3 : decode cX7_isNoThing 3 = .ok (.invokestatic 66, 3) := by decide +kernel
theorem dX7_isNoThing_6 : decode cX7_isNoThing 6 = .ok (.ireturn, 1) := by decide +kernel
set_option maxRecDepth 20000 in
theorem ggX7_isNoSet_X7_isOff : GoodIn wsX7_isNoSet wsX7_isOff := goodIn_r _ [4] (by decide +kernel) (by decide +kernel)
set_option maxRecDepth 20000 in
theorem gX7_isNoSet_X7_isOff : GoodIn wsX7_isNoSet (va_wsS RX7 66 yX7_isOff wsX7_isOff) := goodIn_app (goodIn_of _ (by decide +kernel)) ggX7_isNoSet_X7_isOff
theorem dX7_isNoSet_0 : decode cX7_isNoSet 0 = .ok (.iload_n 0, 1) := by decide +kernel
theorem dX7_isNoSet_1 : decode cX7_isNoSet 1 = .ok (.iconst 0, 1) := by decide +kernel
theorem dX7_isNoSet_2 : decode cX7_isNoSet 2 = .ok (.bipush 63, 2) := by decide +kernel
theorem dX7_isNoSet_4 : decode cX7_isNoSet 4 = .ok (.invokestatic 66, 3) := by decide +kernel
theorem dX7_isNoSet_7 : decode cX7_isNoSet 7 = .ok (.ireturn, 1) := by decide +kernel
set_option maxRecDepth 20000 in
theorem ggX7_isNoBound_X7_isOff : GoodIn wsX7_isNoBound wsX7_isOff := goodIn_r _ [6] (by decide +kernel) (by decide +kernel)
set_option maxRecDepth 20000 in
theorem gX7_isNoBound_X7_isOff : GoodIn wsX7_isNoBound (va_wsS RX7 66 yX7_isOff wsX7_isOff) := goodIn_app (goodIn_of _ (by decide +kernel)) ggX7_isNoBound_X7_isOff
theorem dX7_isNoBound_0 : decode cX7_isNoBound 0 = .ok (.iload_n 1, 1) := by decide +kernel
theorem dX7_isNoBound_1 : decode cX7_isNoBound 1 = .ok (.iconst 0, 1) := by decide +kernel
theorem dX7_isNoBound_2 : decode cX7_isNoBound 2 = .ok (.aload_n 0, 1) := by decide +kernel
theorem dX7_isNoBound_3 : decode cX7_isNoBound 3 = .ok (.getfield 28, 3) := by decide +kernel
theorem dX7_isNoBound_6 : decode cX7_isNoBound 6 = .ok (.getfield 83, 3) := by decide +kernel
theorem dX7_isNoBound_9 : decode cX7_isNoBound 9 = .ok (.iconst 1, 1) := by decide +kernel
theorem dX7_isNoBound_10 : decode cX7_isNoBound 10 = .ok (.isub, 1) := by decide +kernel
theorem dX7_isNoBound_11 : decode cX7_isNoBound 11 = .ok (.invokestatic 66, 3) := by decide +kernel
theorem dX7_isNoBound_14 : decode cX7_isNoBound 14 = .ok (.ireturn, 1) := by decide +kernel
theorem dX8_init_0 : decode cX8_init 0 = .ok (.aload_n 0, 1) := by decide +kernel
theorem dX8_init_1 : decode cX8_init 1 = .ok (.invokespecial 1, 3) := by decide +kernel
theorem dX8_init_4 : decode cX8_init 4 = .ok (.aload_n 0, 1) := by decide +kernel
theorem dX8_init_5 : decode cX8_init 5 = .ok (.sipush 160, 3) := by decide +kernel
theorem dX8_init_8 : decode cX8_init 8 = .ok (.newarray .int, 2) := by decide +kernel
theorem dX8_init_10 : decode cX8_init 10 = .ok (.putfield 7, 3) := by decide +kernel
theorem dX8_init_13 : decode cX8_init 13 = .ok (.aload_n 0, 1) := by decide +kernel
theorem dX8_init_14 : decode cX8_init 14 = .ok (.sipush 140, 3) := by decide +kernel
theorem dX8_init_17 : decode cX8_init 17 = .ok (.newarray .int, 2) := by decide +kernel
theorem dX8_init_19 : decode cX8_init 19 = .ok (.putfield 13, 3) := by decide +kernel
theorem dX8_init_22 : decode cX8_init 22 = .ok (.aload_n 0, 1) := by decide +kernel
theorem dX8_init_23 : decode cX8_init 23 = .ok (.bipush 56, 2) := by decide +kernel
theorem dX8_init_25 : decode cX8_init 25 = .ok (.newarray .int, 2) := by decide +kernel
theorem dX8_init_27 : decode cX8_init 27 = .ok (.putfield 16, 3) := by decide +kernel
theorem dX8_init_30 : decode cX8_init 30 = .ok (.aload_n 0, 1) := by decide +kernel
theorem dX8_init_31 : decode cX8_init 31 = .ok (.bipush 48, 2) := by decide +kernel
theorem dX8_init_33 : decode cX8_init 33 = .ok (.newarray .int, 2) := by decide +kernel
theorem dX8_init_35 : decode cX8_init 35 = .ok (.putfield 19, 3) := by decide +kernel
theorem dX8_init_38 : decode cX8_init 38 = .ok (.aload_n 0, 1) := by decide +kernel
theorem dX8_init_39 : decode cX8_init 39 = .ok (.bipush 48, 2) := by decide +kernel
theorem dX8_init_41 : decode cX8_init 41 = .ok (.newarray .int, 2) := by decide +kernel
theorem dX8_init_43 : decode cX8_init 43 = .ok (.putfield 22, 3) := by decide +kernel
theorem dX8_init_46 : decode cX8_init 46 = .ok (.aload_n 0, 1) := by decide +kernel
theorem dX8_init_47 : decode cX8_init 47 = .ok (.bipush 6, 2) := by decide +kernel
theorem dX8_init_49 : decode cX8_init 49 = .ok (.newarray .int, 2) := by decide +kernel
theorem dX8_init_51 : decode cX8_init 51 = .ok (.putfield 25, 3) := by decide +kernel
theorem dX8_init_54 : decode cX8_init 54 = .ok (.aload_n 0, 1) := by decide +kernel
theorem dX8_init_55 : decode cX8_init 55 = .ok (.bipush 36, 2) := by decide +kernel
theorem dX8_init_57 : decode cX8_init 57 = .ok (.newarray .int, 2) := by decide +kernel
theorem dX8_init_59 : decode cX8_init 59 = .ok (.putfield 28, 3) := by decide +kernel
theorem dX8_init_62 : decode cX8_init 62 = .ok (.aload_n 0, 1) := by decide +kernel
theorem dX8_init_63 : decode cX8_init 63 = .ok (.bipush 6, 2) := by decide +kernel
theorem dX8_init_65 : decode cX8_init 65 = .ok (.newarray .int, 2) := by decide +kernel
theorem dX8_init_67 : decode cX8_init 67 = .ok (.dup, 1) := by decide +kernel
theorem dX8_init_68 : decode cX8_init 68 = .ok (.iconst 0, 1) := by decide +kernel
theorem dX8_init_69 : decode cX8_init 69 = .ok (.iconst 1, 1) := by decide +kernel
theorem dX8_init_70 : decode cX8_init 70 = .ok (.iastore, 1) := by decide +kernel
theorem dX8_init_71 : decode cX8_init 71 = .ok (.dup, 1) := by decide +kernel
theorem dX8_init_72 : decode cX8_init 72 = .ok (.iconst 1, 1) := by decide +kernel
theorem dX8_init_73 : decode cX8_init 73 = .ok (.iconst 1, 1) := by decide +kernel
theorem dX8_init_74 : decode cX8_init 74 = .ok (.iastore, 1) := by decide +kernel
theorem dX8_init_75 : decode cX8_init 75 = .ok (.dup, 1) := by decide +kernel
theorem dX8_init_76 : decode cX8_init 76 = .ok (.iconst 2, 1) := by decide +kernel
theorem dX8_init_77 : decode cX8_init 77 = .ok (.iconst 1, 1) := by decide +kernel
theorem dX8_init_78 : decode cX8_init 78 = .ok (.iastore, 1) := by decide +kernel
theorem dX8_init_79 : decode cX8_init 79 = .ok (.dup, 1) := by decide +kernel
theorem dX8_init_80 : decode cX8_init 80 = .ok (.iconst 3, 1) := by decide +kernel
theorem dX8_init_81 : decode cX8_init 81 = .ok (.iconst 1, 1) := by decide +kernel
theorem dX8_init_82 : decode cX8_init 82 = .ok (.iastore, 1) := by decide +kernel
theorem dX8_init_83 : decode cX8_init 83 = .ok (.dup, 1) := by decide +kernel
theorem dX8_init_84 : decode cX8_init 84 = .ok (.iconst 4, 1) := by decide +kernel
theorem dX8_init_85 : decode cX8_init 85 = .ok (.iconst 1, 1) := by decide +kernel
theorem dX8_init_86 : decode cX8_init 86 = .ok (.iastore, 1) := by decide +kernel
theorem dX8_init_87 : decode cX8_init 87 = .ok (.dup, 1) := by decide +kernel
theorem dX8_init_88 : decode cX8_init 88 = .ok (.iconst 5, 1) := by decide +kernel
theorem dX8_init_89 : decode cX8_init 89 = .ok (.iconst 1, 1) := by decide +kernel
theorem dX8_init_90 : decode cX8_init 90 = .ok (.iastore, 1) := by decide +kernel
theorem dX8_init_91 : decode cX8_init 91 = .ok (.putfield 31, 3) := by decide +kernel
theorem dX8_init_94 : decode cX8_init 94 = .ok (.aload_n 0, 1) := by decide +kernel
theorem dX8_init_95 : decode cX8_init 95 = .ok (.bipush 16, 2) := by decide +kernel
theorem dX8_init_97 : decode cX8_init 97 = .ok (.newarray .int, 2) := by decide +kernel
theorem dX8_init_99 : decode cX8_init 99 = .ok (.putfield 34, 3) := by decide +kernel
theorem dX8_init_102 : decode cX8_init 102 = .ok (.aload_n 0, 1) := by decide +kernel
theorem dX8_init_103 : decode cX8_init 103 = .ok (.bipush 16, 2) := by decide +kernel
theorem dX8_init_105 : decode cX8_init 105 = .ok (.newarray .int, 2) := by decide +kernel
theorem dX8_init_107 : decode cX8_init 107 = .ok (.putfield 37, 3) := by decide +kernel
theorem dX8_init_110 : decode cX8_init 110 = .ok (.aload_n 0, 1) := by decide +kernel
theorem dX8_init_111 : decode cX8_init 111 = .ok (.bipush 16, 2) := by decide +kernel
theorem dX8_init_113 : decode cX8_init 113 = .ok (.newarray .int, 2) := by decide +kernel
theorem dX8_init_115 : decode cX8_init 115 = .ok (.putfield 40, 3) := by decide +kernel
theorem dX8_init_118 : decode cX8_init 118 = .ok (.aload_n 0, 1) := by decide +kernel
theorem dX8_init_119 : decode cX8_init 119 = .ok (.bipush 24, 2) := by decide +kernel
theorem dX8_init_121 : decode cX8_init 121 = .ok (.newarray .int, 2) := by decide +kernel
theorem dX8_init_123 : decode cX8_init 123 = .ok (.putfield 43, 3) := by decide +kernel
theorem dX8_init_126 : decode cX8_init 126 = .ok (.aload_n 0, 1) := by decide +kernel
theorem dX8_init_127 : decode cX8_init 127 = .ok (.bipush 16, 2) := by decide +kernel
theorem dX8_init_129 : decode cX8_init 129 = .ok (.newarray .int, 2) := by decide +kernel
theorem dX8_init_131 : decode cX8_init 131 = .ok (.putfield 46, 3) := by decide +kernel
theorem dX8_init_134 : decode cX8_init 134 = .ok (.aload_n 0, 1) := by decide +kernel
theorem dX8_init_135 : decode cX8_init 135 = .ok (.bipush 96, 2) := by decide +kernel
theorem dX8_init_137 : decode cX8_init 137 = .ok (.newarray .int, 2) := by decide +kernel
theorem dX8_init_139 : decode cX8_init 139 = .ok (.putfield 49, 3) := by decide +kernel
theorem dX8_init_142 : decode cX8_init 142 = .ok (.aload_n 0, 1) := by decide +kernel
theorem dX8_init_143 : decode cX8_init 143 = .ok (.bipush 63, 2) := by decide +kernel
theorem dX8_init_145 : decode cX8_init 145 = .ok (.newarray .int, 2) := by decide +kernel
theorem dX8_init_147 : decode cX8_init 147 = .ok (.putfield 52, 3) := by decide +kernel
theorem dX8_init_150 : decode cX8_init 150 = .ok (.iconst 0, 1) := by decide +kernel
theorem dX8_init_151 : decode cX8_init 151 = .ok (.istore_n 1, 1) := by decide +kernel
theorem dX8_init_152 : decode cX8_init 152 = .ok (.iload_n 1, 1) := by decide +kernel
theorem dX8_init_153 : decode cX8_init 153 = .ok (.bipush 36, 2) := by decide +kernel
theorem dX8_init_155 : decode cX8_init 155 = .ok (.if_icmp .ge 16, 3) := by decide +kernel
theorem dX8_init_158 : decode cX8_init 158 = .ok (.aload_n 0, 1) := by decide +kernel
theorem dX8_init_159 : decode cX8_init 159 = .ok (.getfield 28, 3) := by decide +kernel
theorem dX8_init_162 : decode cX8_init 162 = .ok (.iload_n 1, 1) := by decide +kernel
theorem dX8_init_163 : decode cX8_init 163 = .ok (.iconst 1, 1) := by decide +kernel
theorem dX8_init_164 : decode cX8_init 164 = .ok (.iastore, 1) := by decide +kernel
theorem dX8_init_165 : decode cX8_init 165 = .ok (.iinc 1 1, 3) := by decide +kernel
theorem dX8_init_168 : decode cX8_init 168 = .ok (.goto (-16), 3) := by decide +kernel
theorem dX8_init_171 : decode cX8_init 171 = .ok (.return_, 1) := by decide +kernel
theorem dX8_in_0 : decode cX8_in 0 = .ok (.lload_n 0, 1) := by decide +kernel
theorem dX8_in_1 : decode cX8_in 1 = .ok (.lload_n 2, 1) := by decide +kernel
theorem dX8_in_2 : decode cX8_in 2 = .ok (.lcmp, 1) := by decide +kernel
theorem dX8_in_3 : decode cX8_in 3 = .ok (.ifCond .lt 14, 3) := by decide +kernel
theorem dX8_in_6 : decode cX8_in 6 = .ok (.lload_n 0, 1) := by decide +kernel
theorem dX8_in_7 : decode cX8_in 7 = .ok (.lload 4, 2) := by decide +kernel
theorem dX8_in_9 : decode cX8_in 9 = .ok (.lcmp, 1) := by decide +kernel
theorem dX8_in_10 : decode cX8_in 10 = .ok (.ifCond .gt 7, 3) := by decide +kernel
theorem dX8_in_13 : decode cX8_in 13 = .ok (.iconst 1, 1) := by decide +kernel
theorem dX8_in_14 : decode cX8_in 14 = .ok (.goto 4, 3) := by decide +kernel
theorem dX8_in_17 : decode cX8_in 17 = .ok (.iconst 0, 1) := by decide +kernel
theorem dX8_in_18 : decode cX8_in 18 = .ok (.ireturn, 1) := by decide +kernel
set_option maxRecDepth 20000 in
theorem ggX8_isGuild_X8_in : GoodIn wsX8_isGuild wsX8_in := goodIn_r _ [5] (by decide +kernel) (by decide +kernel)
set_option maxRecDepth 20000 in
theorem gX8_isGuild_X8_in : GoodIn wsX8_isGuild (va_wsS RX8 57 yX8_in wsX8_in) := goodIn_app (goodIn_of _ (by decide +kernel)) ggX8_isGuild_X8_in
theorem dX8_isGuild_0 : decode cX8_isGuild 0 = .ok (.iload_n 0, 1) := by decide +kernel
theorem dX8_isGuild_1 : decode cX8_isGuild 1 = .ok (.i2l, 1) := by decide +kernel
theorem dX8_isGuild_2 : decode cX8_isGuild 2 = .ok (.lconst 0, 1) := by decide +kernel
theorem dX8_isGuild_3 : decode cX8_isGuild 3 = .ok (.ldc2_w 55, 3) := by decide +kernel
theorem dX8_isGuild_6 : decode cX8_isGuild 6 = .ok (.invokestatic 57, 3) := by decide +kernel
theorem dX8_isGuild_9 : decode cX8_isGuild 9 = .ok (.ireturn, 1) := by decide +kernel
set_option maxRecDepth 20000 in
theorem ggX8_isWork_X8_in : GoodIn wsX8_isWork wsX8_in := goodIn_r _ [5] (by decide +kernel) (by decide +kernel)
set_option maxRecDepth 20000 in
theorem gX8_isWork_X8_in : GoodIn wsX8_isWork (va_wsS RX8 57 yX8_in wsX8_in) := goodIn_app (goodIn_of _ (by decide +kernel)) ggX8_isWork_X8_in
theorem dX8_isWork_0 : decode cX8_isWork 0 = .ok (.iload_n 0, 1) := by decide +kernel
theorem dX8_isWork_1 : decode cX8_isWork 1 = .ok (.i2l, 1) := by decide +kernel
theorem dX8_isWork_2 : decode cX8_isWork 2 = .ok (.lconst 0, 1) := by decide +kernel
theorem dX8_isWork_3 : decode cX8_isWork 3 = .ok (.ldc2_w 61, 3) := by decide +kernel
theorem dX8_isWork_6 : decode cX8_isWork 6 = .ok (.invokestatic 57, 3) := by decide +kernel
theorem dX8_isWork_9 : decode cX8_isWork 9 = .ok (.ireturn, 1) := by decide +kernel
set_option maxRecDepth 20000 in
theorem ggX8_isThing_X8_in : GoodIn wsX8_isThing wsX8_in := goodIn_r _ [5] (by decide +kernel) (by decide +kernel)
set_option maxRecDepth 20000 in
theorem gX8_isThing_X8_in : GoodIn wsX8_isThing (va_wsS RX8 57 yX8_in wsX8_in) := goodIn_app (goodIn_of _ (by decide +kernel)) ggX8_isThing_X8_in
theorem dX8_isThing_0 : decode cX8_isThing 0 = .ok (.iload_n 0, 1) := by decide +kernel
theorem dX8_isThing_1 : decode cX8_isThing 1 = .ok (.i2l, 1) := by decide +kernel
theorem dX8_isThing_2 : decode cX8_isThing 2 = .ok (.lconst 0, 1) := by decide +kernel
theorem dX8_isThing_3 : decode cX8_isThing 3 = .ok (.ldc2_w 55, 3) := by decide +kernel
theorem dX8_isThing_6 : decode cX8_isThing 6 = .ok (.invokestatic 57, 3) := by decide +kernel
theorem dX8_isThing_9 : decode cX8_isThing 9 = .ok (.ireturn, 1) := by decide +kernel
set_option maxRecDepth 20000 in
theorem ggX8_write_X8_in : GoodIn wsX8_write wsX8_in := goodIn_r _ [8] (by decide +kernel) (by decide +kernel)
set_option maxRecDepth 20000 in
theorem gX8_write_X8_in : GoodIn wsX8_write (va_wsS RX8 57 yX8_in wsX8_in) := goodIn_app (goodIn_of _ (by decide +kernel)) ggX8_write_X8_in
theorem dX8_write_0 : decode cX8_write 0 = .ok (.iload_n 3, 1) := by decide +kernel
theorem dX8_write_1 : decode cX8_write 1 = .ok (.i2l, 1) := by decide +kernel
theorem dX8_write_2 : decode cX8_write 2 = .ok (.lconst 1, 1) := by decide +kernel
theorem dX8_write_3 : decode cX8_write 3 = .ok (.ldc2_w 63, 3) := by decide +kernel
theorem dX8_write_6 : decode cX8_write 6 = .ok (.invokestatic 57, 3) := by decide +kernel
theorem dX8_write_9 : decode cX8_write 9 = .ok (.ifCond .ne 6, 3) := by decide +kernel
theorem dX8_write_12 : decode cX8_write 12 = .ok (.bipush (-3), 2) := by decide +kernel
theorem dX8_write_14 : decode cX8_write 14 = .ok (.ireturn, 1) := by decide +kernel
theorem dX8_write_15 : decode cX8_write 15 = .ok (.aload_n 0, 1) := by decide +kernel
theorem dX8_write_16 : decode cX8_write 16 = .ok (.getfield 65, 3) := by decide +kernel
theorem dX8_write_19 : decode cX8_write 19 = .ok (.iload_n 3, 1) := by decide +kernel
theorem dX8_write_20 : decode cX8_write 20 = .ok (.iadd, 1) := by decide +kernel
theorem dX8_write_21 : decode cX8_write 21 = .ok (.sipush 160, 3) := by decide +kernel
theorem dX8_write_24 : decode cX8_write 24 = .ok (.if_icmp .le 6, 3) := by decide +kernel
theorem dX8_write_27 : decode cX8_write 27 = .ok (.bipush (-5), 2) := by decide +kernel
theorem dX8_write_29 : decode cX8_write 29 = .ok (.ireturn, 1) := by decide +kernel
theorem dX8_write_30 : decode cX8_write 30 = .ok (.iconst 0, 1) := by decide +kernel
theorem dX8_write_31 : decode cX8_write 31 = .ok (.istore 4, 2) := by decide +kernel
theorem dX8_write_33 : decode cX8_write 33 = .ok (.iload 4, 2) := by decide +kernel
theorem dX8_write_35 : decode cX8_write 35 = .ok (.iload_n 3, 1) := by decide +kernel
theorem dX8_write_36 : decode cX8_write 36 = .ok (.if_icmp .ge 40, 3) := by decide +kernel
theorem dX8_write_39 : decode cX8_write 39 = .ok (.aload_n 0, 1) := by decide +kernel
theorem dX8_write_40 : decode cX8_write 40 = .ok (.getfield 7, 3) := by decide +kernel
theorem dX8_write_43 : decode cX8_write 43 = .ok (.aload_n 0, 1) := by decide +kernel
theorem dX8_write_44 : decode cX8_write 44 = .ok (.getfield 65, 3) := by decide +kernel
theorem dX8_write_47 : decode cX8_write 47 = .ok (.lload_n 1, 1) := by decide +kernel
theorem dX8_write_48 : decode cX8_write 48 = .ok (.bipush 8, 2) := by decide +kernel
theorem dX8_write_50 : decode cX8_write 50 = .ok (.iload 4, 2) := by decide +kernel
theorem dX8_write_52 : decode cX8_write 52 = .ok (.imul, 1) := by decide +kernel
theorem dX8_write_53 : decode cX8_write 53 = .ok (.lshr, 1) := by decide +kernel
theorem dX8_write_54 : decode cX8_write 54 = .ok (.ldc2_w 69, 3) := by decide +kernel
theorem dX8_write_57 : decode cX8_write 57 = .ok (.land, 1) := by decide +kernel
theorem dX8_write_58 : decode cX8_write 58 = .ok (.l2i, 1) := by decide +kernel
theorem dX8_write_59 : decode cX8_write 59 = .ok (.iastore, 1) := by decide +kernel
theorem dX8_write_60 : decode cX8_write 60 = .ok (.aload_n 0, 1) := by decide +kernel
theorem dX8_write_61 : decode cX8_write 61 = .ok (.dup, 1) := by decide +kernel
theorem dX8_write_62 : decode cX8_write 62 = .ok (.getfield 65, 3) := by decide +kernel
theorem dX8_write_65 : decode cX8_write 65 = .ok (.iconst 1, 1) := by decide +kernel
theorem dX8_write_66 : decode cX8_write 66 = .ok (.iadd, 1) := by decide +kernel
theorem dX8_write_67 : decode cX8_write 67 = .ok (.putfield 65, 3) := by decide +kernel
theorem dX8_write_70 : decode cX8_write 70 = .ok (.iinc 4 1, 3) := by decide +kernel
theorem dX8_write_73 : decode cX8_write 73 = .ok (.goto (-40), 3) := by decide +kernel
theorem dX8_write_76 : decode cX8_write 76 = .ok (.aload_n 0, 1) := by decide +kernel
theorem dX8_write_77 : decode cX8_write 77 = .ok (.getfield 65, 3) := by decide +kernel
theorem dX8_write_80 : decode cX8_write 80 = .ok (.ireturn, 1) := by decide +kernel
theorem dX8_erase_0 : decode cX8_erase 0 = .ok (.aload_n 0, 1) := by decide +kernel
theorem dX8_erase_1 : decode cX8_erase 1 = .ok (.getfield 65, 3) := by decide +kernel
theorem dX8_erase_4 : decode cX8_erase 4 = .ok (.istore_n 1, 1) := by decide +kernel
theorem dX8_erase_5 : decode cX8_erase 5 = .ok (.aload_n 0, 1) := by decide +kernel
theorem dX8_erase_6 : decode cX8_erase 6 = .ok (.iconst 0, 1) := by decide +kernel
theorem dX8_erase_7 : decode cX8_erase 7 = .ok (.putfield 65, 3) := by decide +kernel
theorem dX8_erase_10 : decode cX8_erase 10 = .ok (.iload_n 1, 1) := by decide +kernel
theorem dX8_erase_11 : decode cX8_erase 11 = .ok (.ireturn, 1) := by decide +kernel
theorem dX8_sort_0 : decode cX8_sort 0 = .ok (.iload_n 0, 1) := by decide +kernel
theorem dX8_sort_1 : decode cX8_sort 1 = .ok (.bipush 97, 2) := by decide +kernel
theorem dX8_sort_3 : decode cX8_sort 3 = .ok (.if_icmp .lt 13, 3) := by decide +kernel
theorem dX8_sort_6 : decode cX8_sort 6 = .ok (.iload_n 0, 1) := by decide +kernel
theorem dX8_sort_7 : decode cX8_sort 7 = .ok (.bipush 122, 2) := by decide +kernel
theorem dX8_sort_9 : decode cX8_sort 9 = .ok (.if_icmp .gt 7, 3) := by decide +kernel
theorem dX8_sort_12 : decode cX8_sort 12 = .ok (.iconst 1, 1) := by decide +kernel
theorem dX8_sort_13 : decode cX8_sort 13 = .ok (.goto 20, 3) := by decide +kernel
theorem dX8_sort_16 : decode cX8_sort 16 = .ok (.iload_n 0, 1) := by decide +kernel
theorem dX8_sort_17 : decode cX8_sort 17 = .ok (.bipush 48, 2) := by decide +kernel
theorem dX8_sort_19 : decode cX8_sort 19 = .ok (.if_icmp .lt 13, 3) := by decide +kernel
theorem dX8_sort_22 : decode cX8_sort 22 = .ok (.iload_n 0, 1) := by decide +kernel
theorem dX8_sort_23 : decode cX8_sort 23 = .ok (.bipush 57, 2) := by decide +kernel
theorem dX8_sort_25 : decode cX8_sort 25 = .ok (.if_icmp .gt 7, 3) := by decide +kernel
theorem dX8_sort_28 : decode cX8_sort 28 = .ok (.iconst 2, 1) := by decide +kernel
theorem dX8_sort_29 : decode cX8_sort 29 = .ok (.goto 4, 3) := by decide +kernel
theorem dX8_sort_32 : decode cX8_sort 32 = .ok (.iconst 0, 1) := by decide +kernel
theorem dX8_sort_33 : decode cX8_sort 33 = .ok (.ireturn, 1) := by decide +kernel
set_option maxRecDepth 20000 in
theorem ggX8_token_X8_sort : GoodIn wsX8_token wsX8_sort := goodIn_r _ [9] (by decide +kernel) (by decide +kernel)
set_option maxRecDepth 20000 in
theorem gX8_token_X8_sort : GoodIn wsX8_token (va_wsS RX8 77 yX8_sort wsX8_sort) := goodIn_app (goodIn_of _ (by decide +kernel)) ggX8_token_X8_sort
theorem dX8_token_0 : decode cX8_token 0 = .ok (.aload_n 0, 1) := by decide +kernel
theorem dX8_token_1 : decode cX8_token 1 = .ok (.getfield 71, 3) := by decide +kernel
theorem dX8_token_4 : decode cX8_token 4 = .ok (.aload_n 0, 1) := by decide +kernel
theorem dX8_token_5 : decode cX8_token 5 = .ok (.getfield 65, 3) := by decide +kernel
theorem dX8_token_8 : decode cX8_token 8 = .ok (.if_icmp .ge 30, 3) := by decide +kernel
theorem dX8_token_11 : decode cX8_token 11 = .ok (.aload_n 0, 1) := by decide +kernel
theorem dX8_token_12 : decode cX8_token 12 = .ok (.getfield 7, 3) := by decide +kernel
theorem dX8_token_15 : decode cX8_token 15 = .ok (.aload_n 0, 1) := by decide +kernel
theorem dX8_token_16 : decode cX8_token 16 = .ok (.getfield 71, 3) := by decide +kernel
theorem dX8_token_19 : decode cX8_token 19 = .ok (.iaload, 1) := by decide +kernel
theorem dX8_token_20 : decode cX8_token 20 = .ok (.bipush 32, 2) := by decide +kernel
theorem dX8_token_22 : decode cX8_token 22 = .ok (.if_icmp .ne 16, 3) := by decide +kernel
theorem dX8_token_25 : decode cX8_token 25 = .ok (.aload_n 0, 1) := by decide +kernel
theorem dX8_token_26 : decode cX8_token 26 = .ok (.dup, 1) := by decide +kernel
theorem dX8_token_27 : decode cX8_token 27 = .ok (.getfield 71, 3) := by decide +kernel
theorem dX8_token_30 : decode cX8_token 30 = .ok (.iconst 1, 1) := by decide +kernel
theorem dX8_token_31 : decode cX8_token 31 = .ok (.iadd, 1) := by decide +kernel
theorem dX8_token_32 : decode cX8_token 32 = .ok (.putfield 71, 3) := by decide +kernel
theorem dX8_token_35 : decode cX8_token 35 = .ok (.goto (-35), 3) := by decide +kernel
theorem dX8_token_38 : decode cX8_token 38 = .ok (.aload_n 0, 1) := by decide +kernel
theorem dX8_token_39 : decode cX8_token 39 = .ok (.aload_n 0, 1) := by decide +kernel
theorem dX8_token_40 : decode cX8_token 40 = .ok (.getfield 71, 3) := by decide +kernel
theorem dX8_token_43 : decode cX8_token 43 = .ok (.putfield 74, 3) := by decide +kernel
theorem dX8_token_46 : decode cX8_token 46 = .ok (.aload_n 0, 1) := by decide +kernel
theorem dX8_token_47 : decode cX8_token 47 = .ok (.dup, 1) := by decide +kernel
theorem dX8_token_48 : decode cX8_token 48 = .ok (.getfield 71, 3) := by decide +kernel
theorem dX8_token_51 : decode cX8_token 51 = .ok (.aload_n 0, 1) := by decide +kernel
theorem dX8_token_52 : decode cX8_token 52 = .ok (.getfield 71, 3) := by decide +kernel
theorem dX8_token_55 : decode cX8_token 55 = .ok (.aload_n 0, 1) := by decide +kernel
theorem dX8_token_56 : decode cX8_token 56 = .ok (.getfield 65, 3) := by decide +kernel
theorem dX8_token_59 : decode cX8_token 59 = .ok (.if_icmp .ge 7, 3) := by decide +kernel
theorem dX8_token_62 : decode cX8_token 62 = .ok (.iconst 1, 1) := by decide +kernel
theorem dX8_token_63 : decode cX8_token 63 = .ok (.goto 4, 3) := by decide +kernel
theorem dX8_token_66 : decode cX8_token 66 = .ok (.iconst 0, 1) := by decide +kernel
theorem dX8_token_67 : decode cX8_token 67 = .ok (.iadd, 1) := by decide +kernel
theorem dX8_token_68 : decode cX8_token 68 = .ok (.putfield 71, 3) := by decide +kernel
theorem dX8_token_71 : decode cX8_token 71 = .ok (.aload_n 0, 1) := by decide +kernel
theorem dX8_token_72 : decode cX8_token 72 = .ok (.getfield 71, 3) := by decide +kernel
theorem dX8_token_75 : decode cX8_token 75 = .ok (.aload_n 0, 1) := by decide +kernel
theorem dX8_token_76 : decode cX8_token 76 = .ok (.getfield 65, 3) := by decide +kernel
theorem dX8_token_79 : decode cX8_token 79 = .ok (.if_icmp .ge 58, 3) := by decide +kernel
theorem dX8_token_82 : decode cX8_token 82 = .ok (.aload_n 0, 1) := by decide +kernel
theorem dX8_token_83 : decode cX8_token 83 = .ok (.getfield 7, 3) := by decide +kernel
theorem dX8_token_86 : decode cX8_token 86 = .ok (.aload_n 0, 1) := by decide +kernel
theorem dX8_token_87 : decode cX8_token 87 = .ok (.getfield 74, 3) := by decide +kernel
theorem dX8_token_90 : decode cX8_token 90 = .ok (.iaload, 1) := by decide +kernel
theorem dX8_token_91 : decode cX8_token 91 = .ok (.invokestatic 77, 3) := by decide +kernel
theorem dX8_token_94 : decode cX8_token 94 = .ok (.ifCond .le 43, 3) := by decide +kernel
theorem dX8_token_97 : decode cX8_token 97 = .ok (.aload_n 0, 1) := by decide +kernel
theorem dX8_token_98 : decode cX8_token 98 = .ok (.getfield 7, 3) := by decide +kernel
theorem dX8_token_101 : decode cX8_token 101 = .ok (.aload_n 0, 1) := by decide +kernel
theorem dX8_token_102 : decode cX8_token 102 = .ok (.getfield 71, 3) := by decide +kernel
theorem dX8_token_105 : decode cX8_token 105 = .ok (.iaload, 1) := by decide +kernel
theorem dX8_token_106 : decode cX8_token 106 = .ok (.invokestatic 77, 3) := by decide +kernel
theorem dX8_token_109 : decode cX8_token 109 = .ok (.aload_n 0, 1) := by decide +kernel
theorem dX8_token_110 : decode cX8_token 110 = .ok (.getfield 7, 3) := by decide +kernel
theorem dX8_token_113 : decode cX8_token 113 = .ok (.aload_n 0, 1) := by decide +kernel
theorem dX8_token_114 : decode cX8_token 114 = .ok (.getfield 74, 3) := by decide +kernel
theorem dX8_token_117 : decode cX8_token 117 = .ok (.iaload, 1) := by decide +kernel
theorem dX8_token_118 : decode cX8_token 118 = .ok (.invokestatic 77, 3) := by decide +kernel
theorem dX8_token_121 : decode cX8_token 121 = .ok (.if_icmp .ne 16, 3) := by decide +kernel
theorem dX8_token_124 : decode cX8_token 124 = .ok (.aload_n 0, 1) := by decide +kernel
theorem dX8_token_125 : decode cX8_token 125 = .ok (.dup, 1) := by decide +kernel
theorem dX8_token_126 : decode cX8_token 126 = .ok (.getfield 71, 3) := by decide +kernel
theorem dX8_token_129 : decode cX8_token 129 = .ok (.iconst 1, 1) := by decide +kernel
theorem dX8_token_130 : decode cX8_token 130 = .ok (.iadd, 1) := by decide +kernel
theorem dX8_token_131 : decode cX8_token 131 = .ok (.putfield 71, 3) := by decide +kernel
theorem dX8_token_134 : decode cX8_token 134 = .ok (.goto (-63), 3) := by decide +kernel
theorem dX8_token_137 : decode cX8_token 137 = .ok (.aload_n 0, 1) := by decide +kernel
theorem dX8_token_138 : decode cX8_token 138 = .ok (.aload_n 0, 1) := by decide +kernel
theorem dX8_token_139 : decode cX8_token 139 = .ok (.getfield 71, 3) := by decide +kernel
theorem dX8_token_142 : decode cX8_token 142 = .ok (.putfield 81, 3) := by decide +kernel
theorem dX8_token_145 : decode cX8_token 145 = .ok (.return_, 1) := by decide +kernel
theorem dX8_isWord_0 : decode cX8_isWord 0 = .ok (.aload_n 0, 1) := by decide +kernel
theorem dX8_isWord_1 : decode cX8_isWord 1 = .ok (.getfield 81, 3) := by decide +kernel
theorem dX8_isWord_4 : decode cX8_isWord 4 = .ok (.aload_n 0, 1) := by decide +kernel
theorem dX8_isWord_5 : decode cX8_isWord 5 = .ok (.getfield 74, 3) := by decide +kernel
theorem dX8_isWord_8 : decode cX8_isWord 8 = .ok (.isub, 1) := by decide +kernel
theorem dX8_isWord_9 : decode cX8_isWord 9 = .ok (.iload_n 2, 1) := by decide +kernel
theorem dX8_isWord_10 : decode cX8_isWord 10 = .ok (.if_icmp .ne 7, 3) := by decide +kernel
theorem dX8_isWord_13 : decode cX8_isWord 13 = .ok (.iconst 1, 1) := by decide +kernel
theorem dX8_isWord_14 : decode cX8_isWord 14 = .ok (.goto 4, 3) := by decide +kernel
theorem dX8_isWord_17 : decode cX8_isWord 17 = .ok (.iconst 0, 1) := by decide +kernel
theorem dX8_isWord_18 : decode cX8_isWord 18 = .ok (.istore_n 3, 1) := by decide +kernel
theorem dX8_isWord_19 : decode cX8_isWord 19 = .ok (.iconst 0, 1) := by decide +kernel
theorem dX8_isWord_20 : decode cX8_isWord 20 = .ok (.istore 4, 2) := by decide +kernel
theorem dX8_isWord_22 : decode cX8_isWord 22 = .ok (.iload_n 3, 1) := by decide +kernel
theorem dX8_isWord_23 : decode cX8_isWord 23 = .ok (.ifCond .eq 48, 3) := by decide +kernel
theorem dX8_isWord_26 : decode cX8_isWord 26 = .ok (.iload 4, 2) := by decide +kernel
theorem dX8_isWord_28 : decode cX8_isWord 28 = .ok (.iload_n 2, 1) := by decide +kernel
theorem dX8_isWord_29 : decode cX8_isWord 29 = .ok (.if_icmp .ge 42, 3) := by decide +kernel
theorem dX8_isWord_32 : decode cX8_isWord 32 = .ok (.aload_n 0, 1) := by decide +kernel
theorem dX8_isWord_33 : decode cX8_isWord 33 = .ok (.getfield 7, 3) := by decide +kernel
theorem dX8_isWord_36 : decode cX8_isWord 36 = .ok (.aload_n 0, 1) := by decide +kernel
theorem dX8_isWord_37 : decode cX8_isWord 37 = .ok (.getfield 74, 3) := by decide +kernel
theorem dX8_isWord_40 : decode cX8_isWord 40 = .ok (.iload 4, 2) := by decide +kernel
theorem dX8_isWord_42 : decode cX8_isWord 42 = .ok (.iadd, 1) := by decide +kernel
theorem dX8_isWord_43 : decode cX8_isWord 43 = .ok (.iaload, 1) := by decide +kernel
theorem dX8_isWord_44 : decode cX8_isWord 44 = .ok (.bipush 96, 2) := by decide +kernel
theorem dX8_isWord_46 : decode cX8_isWord 46 = .ok (.iload_n 1, 1) := by decide +kernel
theorem dX8_isWord_47 : decode cX8_isWord 47 = .ok (.iconst 5, 1) := by decide +kernel
theorem dX8_isWord_48 : decode cX8_isWord 48 = .ok (.iload 4, 2) := by decide +kernel
theorem dX8_isWord_50 : decode cX8_isWord 50 = .ok (.imul, 1) := by decide +kernel
theorem dX8_isWord_51 : decode cX8_isWord 51 = .ok (.ishr, 1) := by decide +kernel
theorem dX8_isWord_52 : decode cX8_isWord 52 = .ok (.bipush 31, 2) := by decide +kernel
theorem dX8_isWord_54 : decode cX8_isWord 54 = .ok (.iand, 1) := by decide +kernel
theorem dX8_isWord_55 : decode cX8_isWord 55 = .ok (.iadd, 1) := by decide +kernel
theorem dX8_isWord_56 : decode cX8_isWord 56 = .ok (.if_icmp .ne 7, 3) := by decide +kernel
theorem dX8_isWord_59 : decode cX8_isWord 59 = .ok (.iconst 1, 1) := by decide +kernel
theorem dX8_isWord_60 : decode cX8_isWord 60 = .ok (.goto 4, 3) := by decide +kernel
theorem dX8_isWord_63 : decode cX8_isWord 63 = .ok (.iconst 0, 1) := by decide +kernel
theorem dX8_isWord_64 : decode cX8_isWord 64 = .ok (.istore_n 3, 1) := by decide +kernel
theorem dX8_isWord_65 : decode cX8_isWord 65 = .ok (.iinc 4 1, 3) := by decide +kernel
theorem dX8_isWord_68 : decode cX8_isWord 68 = .ok (.goto (-46), 3) := by decide +kernel
theorem dX8_isWord_71 : decode cX8_isWord 71 = .ok (.iload_n 3, 1) := by decide +kernel
theorem dX8_isWord_72 : decode cX8_isWord 72 = .ok (.ireturn, 1) := by decide +kernel
set_option maxRecDepth 20000 in
theorem ggX8_figure_X8_sort : GoodIn wsX8_figure wsX8_sort := goodIn_r _ [8] (by decide +kernel) (by decide +kernel)
set_option maxRecDepth 20000 in
theorem gX8_figure_X8_sort : GoodIn wsX8_figure (va_wsS RX8 77 yX8_sort wsX8_sort) := goodIn_app (goodIn_of _ (by decide +kernel)) ggX8_figure_X8_sort
set_option maxRecDepth 20000 in
theorem ggX8_figure_X8_in : GoodIn wsX8_figure wsX8_in := goodIn_r _ [11] (by decide +kernel) (by decide +kernel)
set_option maxRecDepth 20000 in
theorem gX8_figure_X8_in : GoodIn wsX8_figure (va_wsS RX8 57 yX8_in wsX8_in) := goodIn_app (goodIn_of _ (by decide +kernel)) ggX8_figure_X8_in
set_option maxRecDepth 20000 in
theorem ggX8_figure_X8_token : GoodIn wsX8_figure wsX8_token := goodIn_r _ [15, 16, 2, 3, 1, 4, 5, 6, 7, 8, 17, 18, 19, 20, 21, 22, 23, 24, 25, 26, 27, 28, 29, 30, 31, 32, 33, 34, 35, 36, 37, 38, 39, 40, 41, 42, 43] (by decide +kernel) (by decide +kernel)
set_option maxRecDepth 20000 in
theorem gX8_figure_X8_token : GoodIn wsX8_figure (wsV RX8 84 RX8 yX8_token wsX8_token) := goodIn_app (goodIn_of _ (by decide +kernel)) ggX8_figure_X8_token
theorem dX8_figure_0 : decode cX8_figure 0 = .ok (.aload_n 0, 1) := by decide +kernel
theorem dX8_figure_1 : decode cX8_figure 1 = .ok (.getfield 74, 3) := by decide +kernel
theorem dX8_figure_4 : decode cX8_figure 4 = .ok (.aload_n 0, 1) := by decide +kernel
theorem dX8_figure_5 : decode cX8_figure 5 = .ok (.getfield 65, 3) := by decide +kernel
theorem dX8_figure_8 : decode cX8_figure 8 = .ok (.if_icmp .eq 55, 3) := by decide +kernel
theorem dX8_figure_11 : decode cX8_figure 11 = .ok (.aload_n 0, 1) := by decide +kernel
theorem dX8_figure_12 : decode cX8_figure 12 = .ok (.getfield 7, 3) := by decide +kernel
theorem dX8_figure_15 : decode cX8_figure 15 = .ok (.aload_n 0, 1) := by decide +kernel
theorem dX8_figure_16 : decode cX8_figure 16 = .ok (.getfield 74, 3) := by decide +kernel
theorem dX8_figure_19 : decode cX8_figure 19 = .ok (.iaload, 1) := by decide +kernel
theorem dX8_figure_20 : decode cX8_figure 20 = .ok (.invokestatic 77, 3) := by decide +kernel
theorem dX8_figure_23 : decode cX8_figure 23 = .ok (.iconst 2, 1) := by decide +kernel
theorem dX8_figure_24 : decode cX8_figure 24 = .ok (.if_icmp .ne 39, 3) := by decide +kernel
theorem dX8_figure_27 : decode cX8_figure 27 = .ok (.aload_n 0, 1) := by decide +kernel
theorem dX8_figure_28 : decode cX8_figure 28 = .ok (.getfield 81, 3) := by decide +kernel
theorem dX8_figure_31 : decode cX8_figure 31 = .ok (.aload_n 0, 1) := by decide +kernel
theorem dX8_figure_32 : decode cX8_figure 32 = .ok (.getfield 74, 3) := by decide +kernel
theorem dX8_figure_35 : decode cX8_figure 35 = .ok (.isub, 1) := by decide +kernel
theorem dX8_figure_36 : decode cX8_figure 36 = .ok (.iconst 1, 1) := by decide +kernel
theorem dX8_figure_37 : decode cX8_figure 37 = .ok (.if_icmp .ne 26, 3) := by decide +kernel
theorem dX8_figure_40 : decode cX8_figure 40 = .ok (.aload_n 0, 1) := by decide +kernel
theorem dX8_figure_41 : decode cX8_figure 41 = .ok (.getfield 7, 3) := by decide +kernel
theorem dX8_figure_44 : decode cX8_figure 44 = .ok (.aload_n 0, 1) := by decide +kernel
theorem dX8_figure_45 : decode cX8_figure 45 = .ok (.getfield 74, 3) := by decide +kernel
theorem dX8_figure_48 : decode cX8_figure 48 = .ok (.iaload, 1) := by decide +kernel
theorem dX8_figure_49 : decode cX8_figure 49 = .ok (.bipush 48, 2) := by decide +kernel
theorem dX8_figure_51 : decode cX8_figure 51 = .ok (.isub, 1) := by decide +kernel
theorem dX8_figure_52 : decode cX8_figure 52 = .ok (.i2l, 1) := by decide +kernel
theorem dX8_figure_53 : decode cX8_figure 53 = .ok (.iload_n 1, 1) := by decide +kernel
theorem dX8_figure_54 : decode cX8_figure 54 = .ok (.i2l, 1) := by decide +kernel
theorem dX8_figure_55 : decode cX8_figure 55 = .ok (.iload_n 2, 1) := by decide +kernel
theorem dX8_figure_56 : decode cX8_figure 56 = .ok (.i2l, 1) := by decide +kernel
theorem dX8_figure_57 : decode cX8_figure 57 = .ok (.invokestatic 57, 3) := by decide +kernel
theorem dX8_figure_60 : decode cX8_figure 60 = .ok (.ifCond .ne 5, 3) := by decide +kernel
theorem dX8_figure_63 : decode cX8_figure 63 = .ok (.iconst (-1), 1) := by decide +kernel
theorem dX8_figure_64 : decode cX8_figure 64 = .ok (.ireturn, 1) := by decide +kernel
theorem dX8_figure_65 : decode cX8_figure 65 = .ok (.aload_n 0, 1) := by decide +kernel
theorem dX8_figure_66 : decode cX8_figure 66 = .ok (.getfield 7, 3) := by decide +kernel
theorem dX8_figure_69 : decode cX8_figure 69 = .ok (.aload_n 0, 1) := by decide +kernel
theorem dX8_figure_70 : decode cX8_figure 70 = .ok (.getfield 74, 3) := by decide +kernel
theorem dX8_figure_73 : decode cX8_figure 73 = .ok (.iaload, 1) := by decide +kernel
theorem dX8_figure_74 : decode cX8_figure 74 = .ok (.bipush 48, 2) := by decide +kernel
theorem dX8_figure_76 : decode cX8_figure 76 = .ok (.isub, 1) := by decide +kernel
theorem dX8_figure_77 : decode cX8_figure 77 = .ok (.istore_n 3, 1) := by decide +kernel
theorem dX8_figure_78 : decode cX8_figure 78 = .ok (.aload_n 0, 1) := by decide +kernel
theorem dX8_figure_79 : decode cX8_figure 79 = .ok (.invokevirtual 84, 3) := by decide +kernel
theorem dX8_figure_82 : decode cX8_figure 82 = .ok (.iload_n 3, 1) := by decide +kernel
theorem dX8_figure_83 : decode cX8_figure 83 = .ok (.ireturn, 1) := by decide +kernel
set_option maxRecDepth 20000 in
theorem ggX8_part_X8_isWord : GoodIn wsX8_part wsX8_isWord := goodIn_r _ [5, 6, 7, 8, 25, 26, 27, 28, 29, 30, 31, 32, 33, 34, 35, 36, 37, 38, 39, 40, 41, 42, 43, 44, 45, 46, 47, 48, 49, 50, 51] (by decide +kernel) (by decide +kernel)
set_option maxRecDepth 20000 in
theorem gX8_part_X8_isWord : GoodIn wsX8_part (wsV RX8 87 RX8 yX8_isWord wsX8_isWord) := goodIn_app (goodIn_of _ (by decide +kernel)) ggX8_part_X8_isWord
set_option maxRecDepth 20000 in
theorem ggX8_part_X8_token : GoodIn wsX8_part wsX8_token := goodIn_r _ [12, 13, 14, 8, 7, 6, 15, 16, 4, 17, 25, 26, 27, 28, 29, 30, 31, 32, 33, 34, 35, 36, 37, 38, 39, 40, 41, 42, 43, 44, 45, 46, 47, 48, 49, 50, 51] (by decide +kernel) (by decide +kernel)
set_option maxRecDepth 20000 in
theorem gX8_part_X8_token : GoodIn wsX8_part (wsV RX8 84 RX8 yX8_token wsX8_token) := goodIn_app (goodIn_of _ (by decide +kernel)) ggX8_part_X8_token
set_option maxRecDepth 20000 in
theorem ggX8_part_X8_figure : GoodIn wsX8_part wsX8_figure := goodIn_r _ [21, 7, 14, 8, 6, 15, 16, 4, 17, 22, 23, 24, 9, 10, 11, 12, 13, 25, 26, 27, 28, 29, 30, 31, 32, 33, 34, 35, 36, 37, 38, 39, 40, 41, 42, 43, 44, 45, 46, 47, 48, 49, 50, 51] (by decide +kernel) (by decide +kernel)
set_option maxRecDepth 20000 in
theorem gX8_part_X8_figure : GoodIn wsX8_part (wsV RX8 91 RX8 yX8_figure wsX8_figure) := goodIn_app (goodIn_of _ (by decide +kernel)) ggX8_part_X8_figure
theorem dX8_part_0 : decode cX8_part 0 = .ok (.aload_n 0, 1) := by decide +kernel
theorem dX8_part_1 : decode cX8_part 1 = .ok (.iload_n 1, 1) := by decide +kernel
theorem dX8_part_2 : decode cX8_part 2 = .ok (.iload_n 2, 1) := by decide +kernel
theorem dX8_part_3 : decode cX8_part 3 = .ok (.invokevirtual 87, 3) := by decide +kernel
theorem dX8_part_6 : decode cX8_part 6 = .ok (.ifCond .ne 6, 3) := by decide +kernel
theorem dX8_part_9 : decode cX8_part 9 = .ok (.bipush (-2), 2) := by decide +kernel
theorem dX8_part_11 : decode cX8_part 11 = .ok (.ireturn, 1) := by decide +kernel
theorem dX8_part_12 : decode cX8_part 12 = .ok (.aload_n 0, 1) := by decide +kernel
theorem dX8_part_13 : decode cX8_part 13 = .ok (.invokevirtual 84, 3) := by decide +kernel
theorem dX8_part_16 : decode cX8_part 16 = .ok (.aload_n 0, 1) := by decide +kernel
theorem dX8_part_17 : decode cX8_part 17 = .ok (.iload_n 3, 1) := by decide +kernel
theorem dX8_part_18 : decode cX8_part 18 = .ok (.iload 4, 2) := by decide +kernel
theorem dX8_part_20 : decode cX8_part 20 = .ok (.invokevirtual 91, 3) := by decide +kernel
theorem dX8_part_23 : decode cX8_part 23 = .ok (.ireturn, 1) := by decide +kernel
set_option maxRecDepth 20000 in
theorem ggX8_readsReach_X8_isWord : GoodIn wsX8_readsReach wsX8_isWord := goodIn_r _ [7, 8, 9, 10, 31, 32, 33, 34, 35, 36, 37, 38, 39, 40, 41, 42, 43, 44, 45, 46, 47, 48, 49, 50, 51, 52, 53, 54, 55, 56, 57] (by decide +kernel) (by decide +kernel)
set_option maxRecDepth 20000 in
theorem gX8_readsReach_X8_isWord : GoodIn wsX8_readsReach (wsV RX8 87 RX8 yX8_isWord wsX8_isWord) := goodIn_app (goodIn_of _ (by decide +kernel)) ggX8_readsReach_X8_isWord
set_option maxRecDepth 20000 in
theorem ggX8_readsReach_X8_token : GoodIn wsX8_readsReach wsX8_token := goodIn_r _ [14, 15, 16, 10, 9, 8, 17, 18, 6, 19, 31, 32, 33, 34, 35, 36, 37, 38, 39, 40, 41, 42, 43, 44, 45, 46, 47, 48, 49, 50, 51, 52, 53, 54, 55, 56, 57] (by decide +kernel) (by decide +kernel)
set_option maxRecDepth 20000 in
theorem gX8_readsReach_X8_token : GoodIn wsX8_readsReach (wsV RX8 84 RX8 yX8_token wsX8_token) := goodIn_app (goodIn_of _ (by decide +kernel)) ggX8_readsReach_X8_token
set_option maxRecDepth 20000 in
theorem ggX8_readsReach_X8_part : GoodIn wsX8_readsReach wsX8_part := goodIn_r _ [23, 3, 4, 5, 6, 7, 8, 9, 10, 11, 12, 13, 14, 15, 16, 17, 18, 19, 24, 25, 26, 27, 28, 29, 30, 31, 32, 33, 34, 35, 36, 37, 38, 39, 40, 41, 42, 43, 44, 45, 46, 47, 48, 49, 50, 51, 52, 53, 54, 55, 56, 57] (by decide +kernel) (by decide +kernel)
set_option maxRecDepth 20000 in
theorem gX8_readsReach_X8_part : GoodIn wsX8_readsReach (wsV RX8 95 RX8 yX8_part wsX8_part) := goodIn_app (goodIn_of _ (by decide +kernel)) ggX8_readsReach_X8_part
theorem dX8_readsReach_0 : decode cX8_readsReach 0 = .ok (.aload_n 0, 1) := by decide +kernel
theorem dX8_readsReach_1 : decode cX8_readsReach 1 = .ok (.getfield 16, 3) := by decide +kernel
theorem dX8_readsReach_4 : decode cX8_readsReach 4 = .ok (.iload_n 1, 1) := by decide +kernel
theorem dX8_readsReach_5 : decode cX8_readsReach 5 = .ok (.iconst 3, 1) := by decide +kernel
theorem dX8_readsReach_6 : decode cX8_readsReach 6 = .ok (.iadd, 1) := by decide +kernel
theorem dX8_readsReach_7 : decode cX8_readsReach 7 = .ok (.iconst (-1), 1) := by decide +kernel
theorem dX8_readsReach_8 : decode cX8_readsReach 8 = .ok (.iastore, 1) := by decide +kernel
theorem dX8_readsReach_9 : decode cX8_readsReach 9 = .ok (.aload_n 0, 1) := by decide +kernel
theorem dX8_readsReach_10 : decode cX8_readsReach 10 = .ok (.getfield 16, 3) := by decide +kernel
theorem dX8_readsReach_13 : decode cX8_readsReach 13 = .ok (.iload_n 1, 1) := by decide +kernel
theorem dX8_readsReach_14 : decode cX8_readsReach 14 = .ok (.iconst 4, 1) := by decide +kernel
theorem dX8_readsReach_15 : decode cX8_readsReach 15 = .ok (.iadd, 1) := by decide +kernel
theorem dX8_readsReach_16 : decode cX8_readsReach 16 = .ok (.iconst (-1), 1) := by decide +kernel
theorem dX8_readsReach_17 : decode cX8_readsReach 17 = .ok (.iastore, 1) := by decide +kernel
theorem dX8_readsReach_18 : decode cX8_readsReach 18 = .ok (.aload_n 0, 1) := by decide +kernel
theorem dX8_readsReach_19 : decode cX8_readsReach 19 = .ok (.getfield 16, 3) := by decide +kernel
theorem dX8_readsReach_22 : decode cX8_readsReach 22 = .ok (.iload_n 1, 1) := by decide +kernel
theorem dX8_readsReach_23 : decode cX8_readsReach 23 = .ok (.iconst 5, 1) := by decide +kernel
theorem dX8_readsReach_24 : decode cX8_readsReach 24 = .ok (.iadd, 1) := by decide +kernel
theorem dX8_readsReach_25 : decode cX8_readsReach 25 = .ok (.iconst 0, 1) := by decide +kernel
theorem dX8_readsReach_26 : decode cX8_readsReach 26 = .ok (.iastore, 1) := by decide +kernel
theorem dX8_readsReach_27 : decode cX8_readsReach 27 = .ok (.aload_n 0, 1) := by decide +kernel
theorem dX8_readsReach_28 : decode cX8_readsReach 28 = .ok (.getfield 16, 3) := by decide +kernel
theorem dX8_readsReach_31 : decode cX8_readsReach 31 = .ok (.iload_n 1, 1) := by decide +kernel
theorem dX8_readsReach_32 : decode cX8_readsReach 32 = .ok (.bipush 6, 2) := by decide +kernel
theorem dX8_readsReach_34 : decode cX8_readsReach 34 = .ok (.iadd, 1) := by decide +kernel
theorem dX8_readsReach_35 : decode cX8_readsReach 35 = .ok (.bipush 9, 2) := by decide +kernel
theorem dX8_readsReach_37 : decode cX8_readsReach 37 = .ok (.iastore, 1) := by decide +kernel
theorem dX8_readsReach_38 : decode cX8_readsReach 38 = .ok (.aload_n 0, 1) := by decide +kernel
theorem dX8_readsReach_39 : decode cX8_readsReach 39 = .ok (.sipush 12673, 3) := by decide +kernel
theorem dX8_readsReach_42 : decode cX8_readsReach 42 = .ok (.iconst 3, 1) := by decide +kernel
theorem dX8_readsReach_43 : decode cX8_readsReach 43 = .ok (.invokevirtual 87, 3) := by decide +kernel
theorem dX8_readsReach_46 : decode cX8_readsReach 46 = .ok (.ifCond .eq 9, 3) := by decide +kernel
theorem dX8_readsReach_49 : decode cX8_readsReach 49 = .ok (.aload_n 0, 1) := by decide +kernel
theorem dX8_readsReach_50 : decode cX8_readsReach 50 = .ok (.invokevirtual 84, 3) := by decide +kernel
theorem dX8_readsReach_53 : decode cX8_readsReach 53 = .ok (.iconst 1, 1) := by decide +kernel
theorem dX8_readsReach_54 : decode cX8_readsReach 54 = .ok (.ireturn, 1) := by decide +kernel
theorem dX8_readsReach_55 : decode cX8_readsReach 55 = .ok (.iconst 0, 1) := by decide +kernel
theorem dX8_readsReach_56 : decode cX8_readsReach 56 = .ok (.istore_n 2, 1) := by decide +kernel
theorem dX8_readsReach_57 : decode cX8_readsReach 57 = .ok (.iconst 0, 1) := by decide +kernel
theorem dX8_readsReach_58 : decode cX8_readsReach 58 = .ok (.istore_n 3, 1) := by decide +kernel
theorem dX8_readsReach_59 : decode cX8_readsReach 59 = .ok (.iload_n 3, 1) := by decide +kernel
theorem dX8_readsReach_60 : decode cX8_readsReach 60 = .ok (.iconst 4, 1) := by decide +kernel
theorem dX8_readsReach_61 : decode cX8_readsReach 61 = .ok (.if_icmp .ge 139, 3) := by decide +kernel
theorem dX8_readsReach_64 : decode cX8_readsReach 64 = .ok (.iload_n 3, 1) := by decide +kernel
theorem dX8_readsReach_65 : decode cX8_readsReach 65 = .ok (.ifCond .ne 16, 3) := by decide +kernel
theorem dX8_readsReach_68 : decode cX8_readsReach 68 = .ok (.aload_n 0, 1) := by decide +kernel
theorem dX8_readsReach_69 : decode cX8_readsReach 69 = .ok (.sipush 484, 3) := by decide +kernel
theorem dX8_readsReach_72 : decode cX8_readsReach 72 = .ok (.iconst 2, 1) := by decide +kernel
theorem dX8_readsReach_73 : decode cX8_readsReach 73 = .ok (.iconst 0, 1) := by decide +kernel
theorem dX8_readsReach_74 : decode cX8_readsReach 74 = .ok (.iconst 5, 1) := by decide +kernel
theorem dX8_readsReach_75 : decode cX8_readsReach 75 = .ok (.invokevirtual 95, 3) := by decide +kernel
theorem dX8_readsReach_78 : decode cX8_readsReach 78 = .ok (.goto 57, 3) := by decide +kernel
theorem dX8_readsReach_81 : decode cX8_readsReach 81 = .ok (.iload_n 3, 1) := by decide +kernel
theorem dX8_readsReach_82 : decode cX8_readsReach 82 = .ok (.iconst 1, 1) := by decide +kernel
theorem dX8_readsReach_83 : decode cX8_readsReach 83 = .ok (.if_icmp .ne 16, 3) := by decide +kernel
theorem dX8_readsReach_86 : decode cX8_readsReach 86 = .ok (.aload_n 0, 1) := by decide +kernel
theorem dX8_readsReach_87 : decode cX8_readsReach 87 = .ok (.sipush 207, 3) := by decide +kernel
theorem dX8_readsReach_90 : decode cX8_readsReach 90 = .ok (.iconst 2, 1) := by decide +kernel
theorem dX8_readsReach_91 : decode cX8_readsReach 91 = .ok (.iconst 0, 1) := by decide +kernel
theorem dX8_readsReach_92 : decode cX8_readsReach 92 = .ok (.iconst 3, 1) := by decide +kernel
theorem dX8_readsReach_93 : decode cX8_readsReach 93 = .ok (.invokevirtual 95, 3) := by decide +kernel
theorem dX8_readsReach_96 : decode cX8_readsReach 96 = .ok (.goto 39, 3) := by decide +kernel
theorem dX8_readsReach_99 : decode cX8_readsReach 99 = .ok (.iload_n 3, 1) := by decide +kernel
theorem dX8_readsReach_100 : decode cX8_readsReach 100 = .ok (.iconst 2, 1) := by decide +kernel
theorem dX8_readsReach_101 : decode cX8_readsReach 101 = .ok (.if_icmp .ne 16, 3) := by decide +kernel
theorem dX8_readsReach_104 : decode cX8_readsReach 104 = .ok (.aload_n 0, 1) := by decide +kernel
theorem dX8_readsReach_105 : decode cX8_readsReach 105 = .ok (.ldc 99, 2) := by decide +kernel
theorem dX8_readsReach_107 : decode cX8_readsReach 107 = .ok (.iconst 4, 1) := by decide +kernel
theorem dX8_readsReach_108 : decode cX8_readsReach 108 = .ok (.iconst 0, 1) := by decide +kernel
theorem dX8_readsReach_109 : decode cX8_readsReach 109 = .ok (.bipush 9, 2) := by decide +kernel
theorem dX8_readsReach_111 : decode cX8_readsReach 111 = .ok (.invokevirtual 95, 3) := by decide +kernel
theorem dX8_readsReach_114 : decode cX8_readsReach 114 = .ok (.goto 21, 3) := by decide +kernel
theorem dX8_readsReach_117 : decode cX8_readsReach 117 = .ok (.aload_n 0, 1) := by decide +kernel
theorem dX8_readsReach_118 : decode cX8_readsReach 118 = .ok (.sipush 500, 3) := by decide +kernel
theorem dX8_readsReach_121 : decode cX8_readsReach 121 = .ok (.iconst 2, 1) := by decide +kernel
theorem dX8_readsReach_122 : decode cX8_readsReach 122 = .ok (.aload_n 0, 1) := by decide +kernel
theorem dX8_readsReach_123 : decode cX8_readsReach 123 = .ok (.getfield 16, 3) := by decide +kernel
theorem dX8_readsReach_126 : decode cX8_readsReach 126 = .ok (.iload_n 1, 1) := by decide +kernel
theorem dX8_readsReach_127 : decode cX8_readsReach 127 = .ok (.iconst 5, 1) := by decide +kernel
theorem dX8_readsReach_128 : decode cX8_readsReach 128 = .ok (.iadd, 1) := by decide +kernel
theorem dX8_readsReach_129 : decode cX8_readsReach 129 = .ok (.iaload, 1) := by decide +kernel
theorem dX8_readsReach_130 : decode cX8_readsReach 130 = .ok (.bipush 9, 2) := by decide +kernel
theorem dX8_readsReach_132 : decode cX8_readsReach 132 = .ok (.invokevirtual 95, 3) := by decide +kernel
theorem dX8_readsReach_135 : decode cX8_readsReach 135 = .ok (.istore 4, 2) := by decide +kernel
theorem dX8_readsReach_137 : decode cX8_readsReach 137 = .ok (.iload 4, 2) := by decide +kernel
theorem dX8_readsReach_139 : decode cX8_readsReach 139 = .ok (.iconst (-1), 1) := by decide +kernel
theorem dX8_readsReach_140 : decode cX8_readsReach 140 = .ok (.if_icmp .ne 5, 3) := by decide +kernel
theorem dX8_readsReach_143 : decode cX8_readsReach 143 = .ok (.iconst 0, 1) := by decide +kernel
theorem dX8_readsReach_144 : decode cX8_readsReach 144 = .ok (.ireturn, 1) := by decide +kernel
theorem dX8_readsReach_145 : decode cX8_readsReach 145 = .ok (.iload_n 2, 1) := by decide +kernel
theorem dX8_readsReach_146 : decode cX8_readsReach 146 = .ok (.ifCond .ne 10, 3) := by decide +kernel
theorem dX8_readsReach_149 : decode cX8_readsReach 149 = .ok (.iload 4, 2) := by decide +kernel
theorem dX8_readsReach_151 : decode cX8_readsReach 151 = .ok (.bipush (-2), 2) := by decide +kernel
theorem dX8_readsReach_153 : decode cX8_readsReach 153 = .ok (.if_icmp .eq 7, 3) := by decide +kernel
theorem dX8_readsReach_156 : decode cX8_readsReach 156 = .ok (.iconst 1, 1) := by decide +kernel
theorem dX8_readsReach_157 : decode cX8_readsReach 157 = .ok (.goto 4, 3) := by decide +kernel
theorem dX8_readsReach_160 : decode cX8_readsReach 160 = .ok (.iconst 0, 1) := by decide +kernel
theorem dX8_readsReach_161 : decode cX8_readsReach 161 = .ok (.istore_n 2, 1) := by decide +kernel
theorem dX8_readsReach_162 : decode cX8_readsReach 162 = .ok (.aload_n 0, 1) := by decide +kernel
theorem dX8_readsReach_163 : decode cX8_readsReach 163 = .ok (.getfield 16, 3) := by decide +kernel
theorem dX8_readsReach_166 : decode cX8_readsReach 166 = .ok (.iload_n 1, 1) := by decide +kernel
theorem dX8_readsReach_167 : decode cX8_readsReach 167 = .ok (.iconst 3, 1) := by decide +kernel
theorem dX8_readsReach_168 : decode cX8_readsReach 168 = .ok (.iadd, 1) := by decide +kernel
theorem dX8_readsReach_169 : decode cX8_readsReach 169 = .ok (.iload_n 3, 1) := by decide +kernel
theorem dX8_readsReach_170 : decode cX8_readsReach 170 = .ok (.iadd, 1) := by decide +kernel
theorem dX8_readsReach_171 : decode cX8_readsReach 171 = .ok (.iload 4, 2) := by decide +kernel
theorem dX8_readsReach_173 : decode cX8_readsReach 173 = .ok (.bipush (-2), 2) := by decide +kernel
theorem dX8_readsReach_175 : decode cX8_readsReach 175 = .ok (.if_icmp .ne 16, 3) := by decide +kernel
theorem dX8_readsReach_178 : decode cX8_readsReach 178 = .ok (.aload_n 0, 1) := by decide +kernel
theorem dX8_readsReach_179 : decode cX8_readsReach 179 = .ok (.getfield 16, 3) := by decide +kernel
theorem dX8_readsReach_182 : decode cX8_readsReach 182 = .ok (.iload_n 1, 1) := by decide +kernel
theorem dX8_readsReach_183 : decode cX8_readsReach 183 = .ok (.iconst 3, 1) := by decide +kernel
theorem dX8_readsReach_184 : decode cX8_readsReach 184 = .ok (.iadd, 1) := by decide +kernel
theorem dX8_readsReach_185 : decode cX8_readsReach 185 = .ok (.iload_n 3, 1) := by decide +kernel
theorem dX8_readsReach_186 : decode cX8_readsReach 186 = .ok (.iadd, 1) := by decide +kernel
theorem dX8_readsReach_187 : decode cX8_readsReach 187 = .ok (.iaload, 1) := by decide +kernel
theorem dX8_readsReach_188 : decode cX8_readsReach 188 = .ok (.goto 5, 3) := by decide +kernel
theorem dX8_readsReach_191 : decode cX8_readsReach 191 = .ok (.iload 4, 2) := by decide +kernel
theorem dX8_readsReach_193 : decode cX8_readsReach 193 = .ok (.iastore, 1) := by decide +kernel
theorem dX8_readsReach_194 : decode cX8_readsReach 194 = .ok (.iinc 3 1, 3) := by decide +kernel
theorem dX8_readsReach_197 : decode cX8_readsReach 197 = .ok (.goto (-138), 3) := by decide +kernel
theorem dX8_readsReach_200 : decode cX8_readsReach 200 = .ok (.iload_n 2, 1) := by decide +kernel
theorem dX8_readsReach_201 : decode cX8_readsReach 201 = .ok (.ireturn, 1) := by decide +kernel
set_option maxRecDepth 20000 in
theorem ggX8_readsLine_X8_isWord : GoodIn wsX8_readsLine wsX8_isWord := goodIn_r _ [15, 10, 7, 9, 40, 41, 42, 43, 44, 45, 46, 47, 48, 49, 50, 51, 52, 53, 54, 55, 56, 57, 58, 59, 60, 61, 62, 63, 64, 65, 66] (by decide +kernel) (by decide +kernel)
set_option maxRecDepth 20000 in
theorem gX8_readsLine_X8_isWord : GoodIn wsX8_readsLine (wsV RX8 87 RX8 yX8_isWord wsX8_isWord) := goodIn_app (goodIn_of _ (by decide +kernel)) ggX8_readsLine_X8_isWord
set_option maxRecDepth 20000 in
theorem ggX8_readsLine_X8_token : GoodIn wsX8_readsLine wsX8_token := goodIn_r _ [19, 20, 8, 9, 7, 10, 21, 22, 14, 23, 40, 41, 42, 43, 44, 45, 46, 47, 48, 49, 50, 51, 52, 53, 54, 55, 56, 57, 58, 59, 60, 61, 62, 63, 64, 65, 66] (by decide +kernel) (by decide +kernel)
set_option maxRecDepth 20000 in
theorem gX8_readsLine_X8_token : GoodIn wsX8_readsLine (wsV RX8 84 RX8 yX8_token wsX8_token) := goodIn_app (goodIn_of _ (by decide +kernel)) ggX8_readsLine_X8_token
set_option maxRecDepth 20000 in
theorem ggX8_readsLine_X8_figure : GoodIn wsX8_readsLine wsX8_figure := goodIn_r _ [27, 7, 8, 9, 10, 21, 22, 14, 23, 28, 29, 30, 16, 17, 18, 19, 20, 40, 41, 42, 43, 44, 45, 46, 47, 48, 49, 50, 51, 52, 53, 54, 55, 56, 57, 58, 59, 60, 61, 62, 63, 64, 65, 66] (by decide +kernel) (by decide +kernel)
set_option maxRecDepth 20000 in
theorem gX8_readsLine_X8_figure : GoodIn wsX8_readsLine (wsV RX8 91 RX8 yX8_figure wsX8_figure) := goodIn_app (goodIn_of _ (by decide +kernel)) ggX8_readsLine_X8_figure
set_option maxRecDepth 20000 in
theorem ggX8_readsLine_X8_readsReach : GoodIn wsX8_readsLine wsX8_readsReach := goodIn_r _ [34, 4, 35, 11, 12, 13, 14, 15, 10, 7, 9, 16, 17, 18, 19, 20, 8, 21, 22, 23, 36, 37, 38, 39, 24, 25, 26, 27, 28, 29, 30, 40, 41, 42, 43, 44, 45, 46, 47, 48, 49, 50, 51, 52, 53, 54, 55, 56, 57, 58, 59, 60, 61, 62, 63, 64, 65, 66] (by decide +kernel) (by decide +kernel)
set_option maxRecDepth 20000 in
theorem gX8_readsLine_X8_readsReach : GoodIn wsX8_readsLine (wsV RX8 107 RX8 yX8_readsReach wsX8_readsReach) := goodIn_app (goodIn_of _ (by decide +kernel)) ggX8_readsLine_X8_readsReach
theorem dX8_readsLine_0 : decode cX8_readsLine 0 = .ok (.bipush 7, 2) := by decide +kernel
theorem dX8_readsLine_2 : decode cX8_readsLine 2 = .ok (.aload_n 0, 1) := by decide +kernel
theorem dX8_readsLine_3 : decode cX8_readsLine 3 = .ok (.getfield 100, 3) := by decide +kernel
theorem dX8_readsLine_6 : decode cX8_readsLine 6 = .ok (.imul, 1) := by decide +kernel
theorem dX8_readsLine_7 : decode cX8_readsLine 7 = .ok (.istore_n 1, 1) := by decide +kernel
theorem dX8_readsLine_8 : decode cX8_readsLine 8 = .ok (.aload_n 0, 1) := by decide +kernel
theorem dX8_readsLine_9 : decode cX8_readsLine 9 = .ok (.ldc 103, 2) := by decide +kernel
theorem dX8_readsLine_11 : decode cX8_readsLine 11 = .ok (.iconst 5, 1) := by decide +kernel
theorem dX8_readsLine_12 : decode cX8_readsLine 12 = .ok (.invokevirtual 87, 3) := by decide +kernel
theorem dX8_readsLine_15 : decode cX8_readsLine 15 = .ok (.istore_n 2, 1) := by decide +kernel
theorem dX8_readsLine_16 : decode cX8_readsLine 16 = .ok (.iload_n 2, 1) := by decide +kernel
theorem dX8_readsLine_17 : decode cX8_readsLine 17 = .ok (.ifCond .ne 15, 3) := by decide +kernel
theorem dX8_readsLine_20 : decode cX8_readsLine 20 = .ok (.aload_n 0, 1) := by decide +kernel
theorem dX8_readsLine_21 : decode cX8_readsLine 21 = .ok (.ldc 104, 2) := by decide +kernel
theorem dX8_readsLine_23 : decode cX8_readsLine 23 = .ok (.iconst 5, 1) := by decide +kernel
theorem dX8_readsLine_24 : decode cX8_readsLine 24 = .ok (.invokevirtual 87, 3) := by decide +kernel
theorem dX8_readsLine_27 : decode cX8_readsLine 27 = .ok (.ifCond .ne 5, 3) := by decide +kernel

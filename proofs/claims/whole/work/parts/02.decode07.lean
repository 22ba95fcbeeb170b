theorem dX9_weight_49 : decode cX9_weight 49 = .ok (.iaload, 1) := by decide +kernel
theorem dX9_weight_50 : decode cX9_weight 50 = .ok (.istore 4, 2) := by decide +kernel
theorem dX9_weight_52 : decode cX9_weight 52 = .ok (.aload_n 0, 1) := by decide +kernel
theorem dX9_weight_53 : decode cX9_weight 53 = .ok (.iload 4, 2) := by decide +kernel
theorem dX9_weight_55 : decode cX9_weight 55 = .ok (.iconst (-1), 1) := by decide +kernel
theorem dX9_weight_56 : decode cX9_weight 56 = .ok (.if_icmp .ne 7, 3) := by decide +kernel
theorem dX9_weight_59 : decode cX9_weight 59 = .ok (.iconst 1, 1) := by decide +kernel
theorem dX9_weight_60 : decode cX9_weight 60 = .ok (.goto 22, 3) := by decide +kernel
theorem dX9_weight_63 : decode cX9_weight 63 = .ok (.iload_n 3, 1) := by decide +kernel
theorem dX9_weight_64 : decode cX9_weight 64 = .ok (.ifCond .eq 17, 3) := by decide +kernel
theorem dX9_weight_67 : decode cX9_weight 67 = .ok (.aload_n 0, 1) := by decide +kernel
theorem dX9_weight_68 : decode cX9_weight 68 = .ok (.getfield 39, 3) := by decide +kernel
theorem dX9_weight_71 : decode cX9_weight 71 = .ok (.iload 4, 2) := by decide +kernel
theorem dX9_weight_73 : decode cX9_weight 73 = .ok (.baload, 1) := by decide +kernel
theorem dX9_weight_74 : decode cX9_weight 74 = .ok (.ifCond .ne 7, 3) := by decide +kernel
theorem dX9_weight_77 : decode cX9_weight 77 = .ok (.iconst 3, 1) := by decide +kernel
theorem dX9_weight_78 : decode cX9_weight 78 = .ok (.goto 4, 3) := by decide +kernel
theorem dX9_weight_81 : decode cX9_weight 81 = .ok (.iconst 0, 1) := by decide +kernel
theorem dX9_weight_82 : decode cX9_weight 82 = .ok (.putfield 65, 3) := by decide +kernel
theorem dX9_weight_85 : decode cX9_weight 85 = .ok (.aload_n 0, 1) := by decide +kernel
theorem dX9_weight_86 : decode cX9_weight 86 = .ok (.getfield 65, 3) := by decide +kernel
theorem dX9_weight_89 : decode cX9_weight 89 = .ok (.ifCond .le 11, 3) := by decide +kernel
theorem dX9_weight_92 : decode cX9_weight 92 = .ok (.aload_n 0, 1) := by decide +kernel
theorem dX9_weight_93 : decode cX9_weight 93 = .ok (.iconst 0, 1) := by decide +kernel
theorem dX9_weight_94 : decode cX9_weight 94 = .ok (.invokevirtual 157, 3) := by decide +kernel
theorem dX9_weight_97 : decode cX9_weight 97 = .ok (.goto 28, 3) := by decide +kernel
theorem dX9_weight_100 : decode cX9_weight 100 = .ok (.iload_n 3, 1) := by decide +kernel
theorem dX9_weight_101 : decode cX9_weight 101 = .ok (.ifCond .eq 17, 3) := by decide +kernel
theorem dX9_weight_104 : decode cX9_weight 104 = .ok (.iconst 2, 1) := by decide +kernel
theorem dX9_weight_105 : decode cX9_weight 105 = .ok (.aload_n 0, 1) := by decide +kernel
theorem dX9_weight_106 : decode cX9_weight 106 = .ok (.getfield 36, 3) := by decide +kernel
theorem dX9_weight_109 : decode cX9_weight 109 = .ok (.iload 4, 2) := by decide +kernel
theorem dX9_weight_111 : decode cX9_weight 111 = .ok (.iaload, 1) := by decide +kernel
theorem dX9_weight_112 : decode cX9_weight 112 = .ok (.imul, 1) := by decide +kernel
theorem dX9_weight_113 : decode cX9_weight 113 = .ok (.iconst 1, 1) := by decide +kernel
theorem dX9_weight_114 : decode cX9_weight 114 = .ok (.iadd, 1) := by decide +kernel
theorem dX9_weight_115 : decode cX9_weight 115 = .ok (.goto 10, 3) := by decide +kernel
theorem dX9_weight_118 : decode cX9_weight 118 = .ok (.aload_n 0, 1) := by decide +kernel
theorem dX9_weight_119 : decode cX9_weight 119 = .ok (.getfield 36, 3) := by decide +kernel
theorem dX9_weight_122 : decode cX9_weight 122 = .ok (.iload 4, 2) := by decide +kernel
theorem dX9_weight_124 : decode cX9_weight 124 = .ok (.iaload, 1) := by decide +kernel
theorem dX9_weight_125 : decode cX9_weight 125 = .ok (.ireturn, 1) := by decide +kernel
set_option maxRecDepth 20000 in
theorem ggX9_brake_X9_in : GoodIn wsX9_brake wsX9_in := goodIn_r _ [9] (by decide +kernel) (by decide +kernel)
set_option maxRecDepth 20000 in
theorem gX9_brake_X9_in : GoodIn wsX9_brake (va_wsS RX9 115 yX9_in wsX9_in) := goodIn_app (goodIn_of _ (by decide +kernel)) ggX9_brake_X9_in
set_option maxRecDepth 20000 in
theorem ggX9_brake_X9_isNumber : GoodIn wsX9_brake wsX9_isNumber := goodIn_r _ [12, 13, 14, 15, 16] (by decide +kernel) (by decide +kernel)
set_option maxRecDepth 20000 in
theorem gX9_brake_X9_isNumber : GoodIn wsX9_brake (va_wsS RX9 125 yX9_isNumber wsX9_isNumber) := goodIn_app (goodIn_of _ (by decide +kernel)) ggX9_brake_X9_isNumber
set_option maxRecDepth 20000 in
theorem ggX9_brake_X9_doubleOf : GoodIn wsX9_brake wsX9_doubleOf := goodIn_r _ [19, 20, 21, 22, 23] (by decide +kernel) (by decide +kernel)
set_option maxRecDepth 20000 in
theorem gX9_brake_X9_doubleOf : GoodIn wsX9_brake (va_wsS RX9 106 yX9_doubleOf wsX9_doubleOf) := goodIn_app (goodIn_of _ (by decide +kernel)) ggX9_brake_X9_doubleOf
theorem dX9_brake_0 : decode cX9_brake 0 = .ok (.aload_n 0, 1) := by decide +kernel
theorem dX9_brake_1 : decode cX9_brake 1 = .ok (.iconst 0, 1) := by decide +kernel
theorem dX9_brake_2 : decode cX9_brake 2 = .ok (.putfield 61, 3) := by decide +kernel
theorem dX9_brake_5 : decode cX9_brake 5 = .ok (.iload_n 1, 1) := by decide +kernel
theorem dX9_brake_6 : decode cX9_brake 6 = .ok (.i2l, 1) := by decide +kernel
theorem dX9_brake_7 : decode cX9_brake 7 = .ok (.lconst 0, 1) := by decide +kernel
theorem dX9_brake_8 : decode cX9_brake 8 = .ok (.ldc2_w 123, 3) := by decide +kernel
theorem dX9_brake_11 : decode cX9_brake 11 = .ok (.invokestatic 115, 3) := by decide +kernel
theorem dX9_brake_14 : decode cX9_brake 14 = .ok (.ifCond .ne 7, 3) := by decide +kernel
theorem dX9_brake_17 : decode cX9_brake 17 = .ok (.sipush (-1001), 3) := by decide +kernel
theorem dX9_brake_20 : decode cX9_brake 20 = .ok (.ireturn, 1) := by decide +kernel
theorem dX9_brake_21 : decode cX9_brake 21 = .ok (.iload_n 2, 1) := by decide +kernel
theorem dX9_brake_22 : decode cX9_brake 22 = .ok (.i2l, 1) := by decide +kernel
theorem dX9_brake_23 : decode cX9_brake 23 = .ok (.lconst 0, 1) := by decide +kernel
theorem dX9_brake_24 : decode cX9_brake 24 = .ok (.ldc2_w 208, 3) := by decide +kernel
theorem dX9_brake_27 : decode cX9_brake 27 = .ok (.invokestatic 115, 3) := by decide +kernel
theorem dX9_brake_30 : decode cX9_brake 30 = .ok (.ifCond .eq 16, 3) := by decide +kernel
theorem dX9_brake_33 : decode cX9_brake 33 = .ok (.iload_n 2, 1) := by decide +kernel
theorem dX9_brake_34 : decode cX9_brake 34 = .ok (.iconst 2, 1) := by decide +kernel
theorem dX9_brake_35 : decode cX9_brake 35 = .ok (.if_icmp .ge 15, 3) := by decide +kernel
theorem dX9_brake_38 : decode cX9_brake 38 = .ok (.iconst 3, 1) := by decide +kernel
theorem dX9_brake_39 : decode cX9_brake 39 = .ok (.lload_n 3, 1) := by decide +kernel
theorem dX9_brake_40 : decode cX9_brake 40 = .ok (.invokestatic 125, 3) := by decide +kernel
theorem dX9_brake_43 : decode cX9_brake 43 = .ok (.ifCond .ne 7, 3) := by decide +kernel
theorem dX9_brake_46 : decode cX9_brake 46 = .ok (.sipush (-1002), 3) := by decide +kernel
theorem dX9_brake_49 : decode cX9_brake 49 = .ok (.ireturn, 1) := by decide +kernel
theorem dX9_brake_50 : decode cX9_brake 50 = .ok (.aload_n 0, 1) := by decide +kernel
theorem dX9_brake_51 : decode cX9_brake 51 = .ok (.getfield 52, 3) := by decide +kernel
theorem dX9_brake_54 : decode cX9_brake 54 = .ok (.iload_n 1, 1) := by decide +kernel
theorem dX9_brake_55 : decode cX9_brake 55 = .ok (.iload_n 2, 1) := by decide +kernel
theorem dX9_brake_56 : decode cX9_brake 56 = .ok (.iastore, 1) := by decide +kernel
theorem dX9_brake_57 : decode cX9_brake 57 = .ok (.aload_n 0, 1) := by decide +kernel
theorem dX9_brake_58 : decode cX9_brake 58 = .ok (.getfield 55, 3) := by decide +kernel
theorem dX9_brake_61 : decode cX9_brake 61 = .ok (.iload_n 1, 1) := by decide +kernel
theorem dX9_brake_62 : decode cX9_brake 62 = .ok (.iload_n 2, 1) := by decide +kernel
theorem dX9_brake_63 : decode cX9_brake 63 = .ok (.iconst 2, 1) := by decide +kernel
theorem dX9_brake_64 : decode cX9_brake 64 = .ok (.if_icmp .ge 10, 3) := by decide +kernel
theorem dX9_brake_67 : decode cX9_brake 67 = .ok (.lload_n 3, 1) := by decide +kernel
theorem dX9_brake_68 : decode cX9_brake 68 = .ok (.invokestatic 106, 3) := by decide +kernel
theorem dX9_brake_71 : decode cX9_brake 71 = .ok (.goto 4, 3) := by decide +kernel
theorem dX9_brake_74 : decode cX9_brake 74 = .ok (.dconst 0, 1) := by decide +kernel
theorem dX9_brake_75 : decode cX9_brake 75 = .ok (.dastore, 1) := by decide +kernel
theorem dX9_brake_76 : decode cX9_brake 76 = .ok (.iconst 1, 1) := by decide +kernel
theorem dX9_brake_77 : decode cX9_brake 77 = .ok (.ireturn, 1) := by decide +kernel
set_option maxRecDepth 20000 in
theorem ggX9_slow_X9_in : GoodIn wsX9_slow wsX9_in := goodIn_r _ [12] (by decide +kernel) (by decide +kernel)
set_option maxRecDepth 20000 in
theorem gX9_slow_X9_in : GoodIn wsX9_slow (va_wsS RX9 115 yX9_in wsX9_in) := goodIn_app (goodIn_of _ (by decide +kernel)) ggX9_slow_X9_in
set_option maxRecDepth 20000 in
theorem ggX9_slow_X9_isMeter : GoodIn wsX9_slow wsX9_isMeter := goodIn_r _ [15, 16, 9, 10, 11, 12] (by decide +kernel) (by decide +kernel)
set_option maxRecDepth 20000 in
theorem gX9_slow_X9_isMeter : GoodIn wsX9_slow (va_wsS RX9 119 yX9_isMeter wsX9_isMeter) := goodIn_app (goodIn_of _ (by decide +kernel)) ggX9_slow_X9_isMeter
set_option maxRecDepth 20000 in
theorem ggX9_slow_X9_asDouble : GoodIn wsX9_slow wsX9_asDouble := goodIn_r _ [20, 8, 6, 21, 22, 11, 23, 24, 25, 26, 27, 28, 29, 30, 31, 32, 33, 34, 35, 36, 37, 38, 39, 40, 41, 42, 43, 44, 45, 46, 47, 48, 49, 50, 51, 52, 53, 54, 55, 56, 57, 58, 59, 74, 75, 76, 77, 78, 79, 80, 81, 82, 83, 84, 85, 86, 87, 88, 89, 90, 91, 92, 93] (by decide +kernel) (by decide +kernel)
set_option maxRecDepth 20000 in
theorem gX9_slow_X9_asDouble : GoodIn wsX9_slow (wsV RX9 170 RX9 yX9_asDouble wsX9_asDouble) := goodIn_app (goodIn_of _ (by decide +kernel)) ggX9_slow_X9_asDouble
set_option maxRecDepth 20000 in
theorem ggX9_slow_X9_reckonDoubles : GoodIn wsX9_slow wsX9_reckonDoubles := goodIn_r _ [63, 4, 7, 64, 65, 11, 66, 67, 68, 36, 37, 38, 39, 40, 41, 42, 43, 44, 45, 46, 47, 74, 75, 76, 77, 78, 79, 80, 81, 82, 83, 84, 85, 86, 87, 88, 89, 90, 91, 92, 93] (by decide +kernel) (by decide +kernel)
set_option maxRecDepth 20000 in
theorem gX9_slow_X9_reckonDoubles : GoodIn wsX9_slow (wsV RX9 153 RX9 yX9_reckonDoubles wsX9_reckonDoubles) := goodIn_app (goodIn_of _ (by decide +kernel)) ggX9_slow_X9_reckonDoubles
set_option maxRecDepth 20000 in
theorem ggX9_slow_X9_turned : GoodIn wsX9_slow wsX9_turned := goodIn_r _ [23, 24, 25, 26, 27, 28, 29, 30, 31, 32, 33, 34, 35, 36, 37, 38, 39, 40, 41, 42, 43, 44, 45, 46, 47, 48, 49, 11, 50, 51, 52, 53, 54, 55, 56, 57, 58, 59] (by decide +kernel) (by decide +kernel)
set_option maxRecDepth 20000 in
theorem gX9_slow_X9_turned : GoodIn wsX9_slow (va_wsS RX9 109 yX9_turned wsX9_turned) := goodIn_app (goodIn_of _ (by decide +kernel)) ggX9_slow_X9_turned
set_option maxRecDepth 20000 in
theorem ggX9_slow_X9_answers : GoodIn wsX9_slow wsX9_answers := goodIn_r _ [72, 4, 73, 74, 75, 76, 77, 78, 79, 80, 81, 82, 83, 84, 85, 86, 87, 88, 89, 90, 91, 92, 93] (by decide +kernel) (by decide +kernel)
set_option maxRecDepth 20000 in
theorem gX9_slow_X9_answers : GoodIn wsX9_slow (wsV RX9 157 RX9 yX9_answers wsX9_answers) := goodIn_app (goodIn_of _ (by decide +kernel)) ggX9_slow_X9_answers
theorem dX9_slow_0 : decode cX9_slow 0 = .ok (.aload_n 0, 1) := by decide +kernel
theorem dX9_slow_1 : decode cX9_slow 1 = .ok (.iconst 0, 1) := by decide +kernel
theorem dX9_slow_2 : decode cX9_slow 2 = .ok (.putfield 61, 3) := by decide +kernel
theorem dX9_slow_5 : decode cX9_slow 5 = .ok (.iload_n 1, 1) := by decide +kernel
theorem dX9_slow_6 : decode cX9_slow 6 = .ok (.i2l, 1) := by decide +kernel
theorem dX9_slow_7 : decode cX9_slow 7 = .ok (.lconst 0, 1) := by decide +kernel
theorem dX9_slow_8 : decode cX9_slow 8 = .ok (.ldc2_w 123, 3) := by decide +kernel
theorem dX9_slow_11 : decode cX9_slow 11 = .ok (.invokestatic 115, 3) := by decide +kernel
theorem dX9_slow_14 : decode cX9_slow 14 = .ok (.ifCond .eq 10, 3) := by decide +kernel
theorem dX9_slow_17 : decode cX9_slow 17 = .ok (.iload_n 2, 1) := by decide +kernel
theorem dX9_slow_18 : decode cX9_slow 18 = .ok (.invokestatic 119, 3) := by decide +kernel
theorem dX9_slow_21 : decode cX9_slow 21 = .ok (.ifCond .ne 7, 3) := by decide +kernel
theorem dX9_slow_24 : decode cX9_slow 24 = .ok (.sipush (-1001), 3) := by decide +kernel
theorem dX9_slow_27 : decode cX9_slow 27 = .ok (.ireturn, 1) := by decide +kernel
theorem dX9_slow_28 : decode cX9_slow 28 = .ok (.aload_n 0, 1) := by decide +kernel
theorem dX9_slow_29 : decode cX9_slow 29 = .ok (.aload_n 0, 1) := by decide +kernel
theorem dX9_slow_30 : decode cX9_slow 30 = .ok (.getfield 52, 3) := by decide +kernel
theorem dX9_slow_33 : decode cX9_slow 33 = .ok (.iload_n 1, 1) := by decide +kernel
theorem dX9_slow_34 : decode cX9_slow 34 = .ok (.iaload, 1) := by decide +kernel
theorem dX9_slow_35 : decode cX9_slow 35 = .ok (.iconst 2, 1) := by decide +kernel
theorem dX9_slow_36 : decode cX9_slow 36 = .ok (.if_icmp .ne 7, 3) := by decide +kernel
theorem dX9_slow_39 : decode cX9_slow 39 = .ok (.iconst 1, 1) := by decide +kernel
theorem dX9_slow_40 : decode cX9_slow 40 = .ok (.goto 4, 3) := by decide +kernel
theorem dX9_slow_43 : decode cX9_slow 43 = .ok (.iconst 0, 1) := by decide +kernel
theorem dX9_slow_44 : decode cX9_slow 44 = .ok (.putfield 65, 3) := by decide +kernel
theorem dX9_slow_47 : decode cX9_slow 47 = .ok (.aload_n 0, 1) := by decide +kernel
theorem dX9_slow_48 : decode cX9_slow 48 = .ok (.getfield 65, 3) := by decide +kernel
theorem dX9_slow_51 : decode cX9_slow 51 = .ok (.ifCond .ne 32, 3) := by decide +kernel
theorem dX9_slow_54 : decode cX9_slow 54 = .ok (.aload_n 0, 1) := by decide +kernel
theorem dX9_slow_55 : decode cX9_slow 55 = .ok (.aload_n 0, 1) := by decide +kernel
theorem dX9_slow_56 : decode cX9_slow 56 = .ok (.getfield 52, 3) := by decide +kernel
theorem dX9_slow_59 : decode cX9_slow 59 = .ok (.iload_n 1, 1) := by decide +kernel
theorem dX9_slow_60 : decode cX9_slow 60 = .ok (.iaload, 1) := by decide +kernel
theorem dX9_slow_61 : decode cX9_slow 61 = .ok (.ifCond .ne 7, 3) := by decide +kernel
theorem dX9_slow_64 : decode cX9_slow 64 = .ok (.iconst 4, 1) := by decide +kernel
theorem dX9_slow_65 : decode cX9_slow 65 = .ok (.goto 4, 3) := by decide +kernel
theorem dX9_slow_68 : decode cX9_slow 68 = .ok (.iconst 3, 1) := by decide +kernel
theorem dX9_slow_69 : decode cX9_slow 69 = .ok (.aload_n 0, 1) := by decide +kernel
theorem dX9_slow_70 : decode cX9_slow 70 = .ok (.iload_n 2, 1) := by decide +kernel
theorem dX9_slow_71 : decode cX9_slow 71 = .ok (.invokevirtual 170, 3) := by decide +kernel
theorem dX9_slow_74 : decode cX9_slow 74 = .ok (.aload_n 0, 1) := by decide +kernel
theorem dX9_slow_75 : decode cX9_slow 75 = .ok (.getfield 55, 3) := by decide +kernel
theorem dX9_slow_78 : decode cX9_slow 78 = .ok (.iload_n 1, 1) := by decide +kernel
theorem dX9_slow_79 : decode cX9_slow 79 = .ok (.daload, 1) := by decide +kernel
theorem dX9_slow_80 : decode cX9_slow 80 = .ok (.invokevirtual 153, 3) := by decide +kernel
theorem dX9_slow_83 : decode cX9_slow 83 = .ok (.aload_n 0, 1) := by decide +kernel
theorem dX9_slow_84 : decode cX9_slow 84 = .ok (.getfield 65, 3) := by decide +kernel
theorem dX9_slow_87 : decode cX9_slow 87 = .ok (.ifCond .ne 46, 3) := by decide +kernel
theorem dX9_slow_90 : decode cX9_slow 90 = .ok (.aload_n 0, 1) := by decide +kernel
theorem dX9_slow_91 : decode cX9_slow 91 = .ok (.getfield 13, 3) := by decide +kernel
theorem dX9_slow_94 : decode cX9_slow 94 = .ok (.iload_n 2, 1) := by decide +kernel
theorem dX9_slow_95 : decode cX9_slow 95 = .ok (.aload_n 0, 1) := by decide +kernel
theorem dX9_slow_96 : decode cX9_slow 96 = .ok (.getfield 52, 3) := by decide +kernel
theorem dX9_slow_99 : decode cX9_slow 99 = .ok (.iload_n 1, 1) := by decide +kernel
theorem dX9_slow_100 : decode cX9_slow 100 = .ok (.iaload, 1) := by decide +kernel
theorem dX9_slow_101 : decode cX9_slow 101 = .ok (.ifCond .ne 10, 3) := by decide +kernel
theorem dX9_slow_104 : decode cX9_slow 104 = .ok (.aload_n 0, 1) := by decide +kernel
theorem dX9_slow_105 : decode cX9_slow 105 = .ok (.getfield 131, 3) := by decide +kernel
theorem dX9_slow_108 : decode cX9_slow 108 = .ok (.goto 17, 3) := by decide +kernel
theorem dX9_slow_111 : decode cX9_slow 111 = .ok (.iconst 2, 1) := by decide +kernel
theorem dX9_slow_112 : decode cX9_slow 112 = .ok (.iconst 3, 1) := by decide +kernel
theorem dX9_slow_113 : decode cX9_slow 113 = .ok (.aload_n 0, 1) := by decide +kernel
theorem dX9_slow_114 : decode cX9_slow 114 = .ok (.getfield 131, 3) := by decide +kernel
theorem dX9_slow_117 : decode cX9_slow 117 = .ok (.iconst 2, 1) := by decide +kernel
theorem dX9_slow_118 : decode cX9_slow 118 = .ok (.invokestatic 109, 3) := by decide +kernel
theorem dX9_slow_121 : decode cX9_slow 121 = .ok (.iconst 3, 1) := by decide +kernel
theorem dX9_slow_122 : decode cX9_slow 122 = .ok (.invokestatic 109, 3) := by decide +kernel
theorem dX9_slow_125 : decode cX9_slow 125 = .ok (.lastore, 1) := by decide +kernel
theorem dX9_slow_126 : decode cX9_slow 126 = .ok (.aload_n 0, 1) := by decide +kernel
theorem dX9_slow_127 : decode cX9_slow 127 = .ok (.getfield 7, 3) := by decide +kernel
theorem dX9_slow_130 : decode cX9_slow 130 = .ok (.iload_n 2, 1) := by decide +kernel
theorem dX9_slow_131 : decode cX9_slow 131 = .ok (.iconst 3, 1) := by decide +kernel
theorem dX9_slow_132 : decode cX9_slow 132 = .ok (.iastore, 1) := by decide +kernel
theorem dX9_slow_133 : decode cX9_slow 133 = .ok (.aload_n 0, 1) := by decide +kernel
theorem dX9_slow_134 : decode cX9_slow 134 = .ok (.iconst 1, 1) := by decide +kernel
theorem dX9_slow_135 : decode cX9_slow 135 = .ok (.invokevirtual 157, 3) := by decide +kernel
theorem dX9_slow_138 : decode cX9_slow 138 = .ok (.ireturn, 1) := by decide +kernel
theorem dX9_failed_0 : decode cX9_failed 0 = .ok (.aload_n 0, 1) := by decide +kernel
theorem dX9_failed_1 : decode cX9_failed 1 = .ok (.iconst 0, 1) := by decide +kernel
theorem dX9_failed_2 : decode cX9_failed 2 = .ok (.putfield 61, 3) := by decide +kernel
theorem dX9_failed_5 : decode cX9_failed 5 = .ok (.aload_n 0, 1) := by decide +kernel
theorem dX9_failed_6 : decode cX9_failed 6 = .ok (.getfield 65, 3) := by decide +kernel
theorem dX9_failed_9 : decode cX9_failed 9 = .ok (.ireturn, 1) := by decide +kernel
set_option maxRecDepth 20000 in
theorem ggX9_count_X9_in : GoodIn wsX9_count wsX9_in := goodIn_r _ [8] (by decide +kernel) (by decide +kernel)
set_option maxRecDepth 20000 in
theorem gX9_count_X9_in : GoodIn wsX9_count (va_wsS RX9 115 yX9_in wsX9_in) := goodIn_app (goodIn_of _ (by decide +kernel)) ggX9_count_X9_in
theorem dX9_count_0 : decode cX9_count 0 = .ok (.aload_n 0, 1) := by decide +kernel
theorem dX9_count_1 : decode cX9_count 1 = .ok (.iconst 0, 1) := by decide +kernel
theorem dX9_count_2 : decode cX9_count 2 = .ok (.putfield 61, 3) := by decide +kernel
theorem dX9_count_5 : decode cX9_count 5 = .ok (.iload_n 1, 1) := by decide +kernel
theorem dX9_count_6 : decode cX9_count 6 = .ok (.ifCond .ne 10, 3) := by decide +kernel
theorem dX9_count_9 : decode cX9_count 9 = .ok (.aload_n 0, 1) := by decide +kernel
theorem dX9_count_10 : decode cX9_count 10 = .ok (.getfield 192, 3) := by decide +kernel
theorem dX9_count_13 : decode cX9_count 13 = .ok (.goto 27, 3) := by decide +kernel
theorem dX9_count_16 : decode cX9_count 16 = .ok (.iload_n 1, 1) := by decide +kernel
theorem dX9_count_17 : decode cX9_count 17 = .ok (.i2l, 1) := by decide +kernel
theorem dX9_count_18 : decode cX9_count 18 = .ok (.lconst 1, 1) := by decide +kernel
theorem dX9_count_19 : decode cX9_count 19 = .ok (.ldc2_w 161, 3) := by decide +kernel
theorem dX9_count_22 : decode cX9_count 22 = .ok (.invokestatic 115, 3) := by decide +kernel
theorem dX9_count_25 : decode cX9_count 25 = .ok (.ifCond .eq 12, 3) := by decide +kernel
theorem dX9_count_28 : decode cX9_count 28 = .ok (.aload_n 0, 1) := by decide +kernel
theorem dX9_count_29 : decode cX9_count 29 = .ok (.getfield 58, 3) := by decide +kernel
theorem dX9_count_32 : decode cX9_count 32 = .ok (.iload_n 1, 1) := by decide +kernel
theorem dX9_count_33 : decode cX9_count 33 = .ok (.iaload, 1) := by decide +kernel
theorem dX9_count_34 : decode cX9_count 34 = .ok (.goto 6, 3) := by decide +kernel
theorem dX9_count_37 : decode cX9_count 37 = .ok (.sipush (-1002), 3) := by decide +kernel
theorem dX9_count_40 : decode cX9_count 40 = .ok (.ireturn, 1) := by decide +kernel
theorem dJxe99ae_isNaN_b9ae7_0 : decode cJxe99ae_isNaN_b9ae7 0 = .ok (.dload_n 0, 1) := by decide +kernel
theorem dJxe99ae_isNaN_b9ae7_1 : decode cJxe99ae_isNaN_b9ae7 1 = .ok (.dload_n 0, 1) := by decide +kernel
theorem dJxe99ae_isNaN_b9ae7_2 : decode cJxe99ae_isNaN_b9ae7 2 = .ok (.dcmp .l, 1) := by decide +kernel
theorem dJxe99ae_isNaN_b9ae7_3 : decode cJxe99ae_isNaN_b9ae7 3 = .ok (.ifCond .eq 7, 3) := by decide +kernel
theorem dJxe99ae_isNaN_b9ae7_6 : decode cJxe99ae_isNaN_b9ae7 6 = .ok (.iconst 1, 1) := by decide +kernel
theorem dJxe99ae_isNaN_b9ae7_7 : decode cJxe99ae_isNaN_b9ae7 7 = .ok (.goto 4, 3) := by decide +kernel
theorem dJxe99ae_isNaN_b9ae7_10 : decode cJxe99ae_isNaN_b9ae7 10 = .ok (.iconst 0, 1) := by decide +kernel
theorem dJxe99ae_isNaN_b9ae7_11 : decode cJxe99ae_isNaN_b9ae7 11 = .ok (.ireturn, 1) := by decide +kernel
set_option maxRecDepth 20000 in
theorem ggJxe99ae_doubleToLongBits_ccdee_Jxe99ae_isNaN_b9ae7 : GoodIn wsJxe99ae_doubleToLongBits_ccdee wsJxe99ae_isNaN_b9ae7 := goodIn_r _ [9] (by decide +kernel) (by decide +kernel)
set_option maxRecDepth 20000 in
theorem gJxe99ae_doubleToLongBits_ccdee_Jxe99ae_isNaN_b9ae7 : GoodIn wsJxe99ae_doubleToLongBits_ccdee (va_wsS RJxe99ae 122 yJxe99ae_isNaN_b9ae7 wsJxe99ae_isNaN_b9ae7) := goodIn_app (goodIn_of _ (by decide +kernel)) ggJxe99ae_doubleToLongBits_ccdee_Jxe99ae_isNaN_b9ae7
theorem dJxe99ae_doubleToLongBits_ccdee_0 : decode cJxe99ae_doubleToLongBits_ccdee 0 = .ok (.dload_n 0, 1) := by decide +kernel
theorem dJxe99ae_doubleToLongBits_ccdee_1 : decode cJxe99ae_doubleToLongBits_ccdee 1 = .ok (.invokestatic 122, 3) := by decide +kernel
theorem dJxe99ae_doubleToLongBits_ccdee_4 : decode cJxe99ae_doubleToLongBits_ccdee 4 = .ok (.ifCond .ne 8, 3) := by decide +kernel
theorem dJxe99ae_doubleToLongBits_ccdee_7 : decode cJxe99ae_doubleToLongBits_ccdee 7 = .ok (.dload_n 0, 1) := by decide +kernel
theorem dJxe99ae_doubleToLongBits_ccdee_8 : decode cJxe99ae_doubleToLongBits_ccdee 8 = .ok (.invokestatic 134, 3) := by decide +kernel
theorem dJxe99ae_doubleToLongBits_ccdee_11 : decode cJxe99ae_doubleToLongBits_ccdee 11 = .ok (.lreturn, 1) := by decide +kernel
theorem dJxe99ae_doubleToLongBits_ccdee_12 : decode cJxe99ae_doubleToLongBits_ccdee 12 = .ok (.ldc2_w 137, 3) := by decide +kernel
theorem dJxe99ae_doubleToLongBits_ccdee_15 : decode cJxe99ae_doubleToLongBits_ccdee 15 = .ok (.lreturn, 1) := by decide +kernel
theorem dJxf58ca_isNaN_12338_0 : decode cJxf58ca_isNaN_12338 0 = .ok (.fload_n 0, 1) := by decide +kernel
theorem dJxf58ca_isNaN_12338_1 : decode cJxf58ca_isNaN_12338 1 = .ok (.fload_n 0, 1) := by decide +kernel
theorem dJxf58ca_isNaN_12338_2 : decode cJxf58ca_isNaN_12338 2 = .ok (.fcmp .l, 1) := by decide +kernel
theorem dJxf58ca_isNaN_12338_3 : decode cJxf58ca_isNaN_12338 3 = .ok (.ifCond .eq 7, 3) := by decide +kernel
theorem dJxf58ca_isNaN_12338_6 : decode cJxf58ca_isNaN_12338 6 = .ok (.iconst 1, 1) := by decide +kernel
theorem dJxf58ca_isNaN_12338_7 : decode cJxf58ca_isNaN_12338 7 = .ok (.goto 4, 3) := by decide +kernel
theorem dJxf58ca_isNaN_12338_10 : decode cJxf58ca_isNaN_12338 10 = .ok (.iconst 0, 1) := by decide +kernel
theorem dJxf58ca_isNaN_12338_11 : decode cJxf58ca_isNaN_12338 11 = .ok (.ireturn, 1) := by decide +kernel
set_option maxRecDepth 20000 in
theorem ggJxf58ca_floatToIntBits_5c35a_Jxf58ca_isNaN_12338 : GoodIn wsJxf58ca_floatToIntBits_5c35a wsJxf58ca_isNaN_12338 := goodIn_r _ [9] (by decide +kernel) (by decide +kernel)
set_option maxRecDepth 20000 in
theorem gJxf58ca_floatToIntBits_5c35a_Jxf58ca_isNaN_12338 : GoodIn wsJxf58ca_floatToIntBits_5c35a (va_wsS RJxf58ca 59 yJxf58ca_isNaN_12338 wsJxf58ca_isNaN_12338) := goodIn_app (goodIn_of _ (by decide +kernel)) ggJxf58ca_floatToIntBits_5c35a_Jxf58ca_isNaN_12338
theorem dJxf58ca_floatToIntBits_5c35a_0 : decode cJxf58ca_floatToIntBits_5c35a 0 = .ok (.fload_n 0, 1) := by decide +kernel
theorem dJxf58ca_floatToIntBits_5c35a_1 : decode cJxf58ca_floatToIntBits_5c35a 1 = .ok (.invokestatic 59, 3) := by decide +kernel
theorem dJxf58ca_floatToIntBits_5c35a_4 : decode cJxf58ca_floatToIntBits_5c35a 4 = .ok (.ifCond .ne 8, 3) := by decide +kernel
theorem dJxf58ca_floatToIntBits_5c35a_7 : decode cJxf58ca_floatToIntBits_5c35a 7 = .ok (.fload_n 0, 1) := by decide +kernel
theorem dJxf58ca_floatToIntBits_5c35a_8 : decode cJxf58ca_floatToIntBits_5c35a 8 = .ok (.invokestatic 74, 3) := by decide +kernel
theorem dJxf58ca_floatToIntBits_5c35a_11 : decode cJxf58ca_floatToIntBits_5c35a 11 = .ok (.ireturn, 1) := by decide +kernel
theorem dJxf58ca_floatToIntBits_5c35a_12 : decode cJxf58ca_floatToIntBits_5c35a 12 = .ok (.ldc 77, 2) := by decide +kernel
theorem dJxf58ca_floatToIntBits_5c35a_14 : decode cJxf58ca_floatToIntBits_5c35a 14 = .ok (.ireturn, 1) := by decide +kernel
theorem dJ9_abs_0f7a4_0 : decode cJ9_abs_0f7a4 0 = .ok (.iload_n 0, 1) := by decide +kernel
theorem dJ9_abs_0f7a4_1 : decode cJ9_abs_0f7a4 1 = .ok (.ifCond .ge 8, 3) := by decide +kernel
theorem dJ9_abs_0f7a4_4 : decode cJ9_abs_0f7a4 4 = .ok (.iload_n 0, 1) := by decide +kernel
theorem dJ9_abs_0f7a4_5 : decode cJ9_abs_0f7a4 5 = .ok (.ineg, 1) := by decide +kernel
theorem dJ9_abs_0f7a4_6 : decode cJ9_abs_0f7a4 6 = .ok (.goto 4, 3) := by decide +kernel
theorem dJ9_abs_0f7a4_9 : decode cJ9_abs_0f7a4 9 = .ok (.iload_n 0, 1) := by decide +kernel
theorem dJ9_abs_0f7a4_10 : decode cJ9_abs_0f7a4 10 = .ok (.ireturn, 1) := by decide +kernel
theorem dJ9_max_7cf53_0 : decode cJ9_max_7cf53 0 = .ok (.iload_n 0, 1) := by decide +kernel
theorem dJ9_max_7cf53_1 : decode cJ9_max_7cf53 1 = .ok (.iload_n 1, 1) := by decide +kernel
theorem dJ9_max_7cf53_2 : decode cJ9_max_7cf53 2 = .ok (.if_icmp .lt 7, 3) := by decide +kernel
theorem dJ9_max_7cf53_5 : decode cJ9_max_7cf53 5 = .ok (.iload_n 0, 1) := by decide +kernel
theorem dJ9_max_7cf53_6 : decode cJ9_max_7cf53 6 = .ok (.goto 4, 3) := by decide +kernel
theorem dJ9_max_7cf53_9 : decode cJ9_max_7cf53 9 = .ok (.iload_n 1, 1) := by decide +kernel
theorem dJ9_max_7cf53_10 : decode cJ9_max_7cf53 10 = .ok (.ireturn, 1) := by decide +kernel
theorem dJ9_min_7cf53_0 : decode cJ9_min_7cf53 0 = .ok (.iload_n 0, 1) := by decide +kernel
theorem dJ9_min_7cf53_1 : decode cJ9_min_7cf53 1 = .ok (.iload_n 1, 1) := by decide +kernel
theorem dJ9_min_7cf53_2 : decode cJ9_min_7cf53 2 = .ok (.if_icmp .gt 7, 3) := by decide +kernel
theorem dJ9_min_7cf53_5 : decode cJ9_min_7cf53 5 = .ok (.iload_n 0, 1) := by decide +kernel
theorem dJ9_min_7cf53_6 : decode cJ9_min_7cf53 6 = .ok (.goto 4, 3) := by decide +kernel
theorem dJ9_min_7cf53_9 : decode cJ9_min_7cf53 9 = .ok (.iload_n 1, 1) := by decide +kernel
theorem dJ9_min_7cf53_10 : decode cJ9_min_7cf53 10 = .ok (.ireturn, 1) := by decide +kernel
theorem dJ7_fill_7f8df_0 : decode cJ7_fill_7f8df 0 = .ok (.iconst 0, 1) := by decide +kernel
theorem dJ7_fill_7f8df_1 : decode cJ7_fill_7f8df 1 = .ok (.istore_n 3, 1) := by decide +kernel
theorem dJ7_fill_7f8df_2 : decode cJ7_fill_7f8df 2 = .ok (.aload_n 0, 1) := by decide +kernel
theorem dJ7_fill_7f8df_3 : decode cJ7_fill_7f8df 3 = .ok (.arraylength, 1) := by decide +kernel
theorem dJ7_fill_7f8df_4 : decode cJ7_fill_7f8df 4 = .ok (.istore 4, 2) := by decide +kernel
theorem dJ7_fill_7f8df_6 : decode cJ7_fill_7f8df 6 = .ok (.iload_n 3, 1) := by decide +kernel
theorem dJ7_fill_7f8df_7 : decode cJ7_fill_7f8df 7 = .ok (.iload 4, 2) := by decide +kernel
theorem dJ7_fill_7f8df_9 : decode cJ7_fill_7f8df 9 = .ok (.if_icmp .ge 13, 3) := by decide +kernel
theorem dJ7_fill_7f8df_12 : decode cJ7_fill_7f8df 12 = .ok (.aload_n 0, 1) := by decide +kernel
theorem dJ7_fill_7f8df_13 : decode cJ7_fill_7f8df 13 = .ok (.iload_n 3, 1) := by decide +kernel
theorem dJ7_fill_7f8df_14 : decode cJ7_fill_7f8df 14 = .ok (.dload_n 1, 1) := by decide +kernel
theorem dJ7_fill_7f8df_15 : decode cJ7_fill_7f8df 15 = .ok (.dastore, 1) := by decide +kernel
theorem dJ7_fill_7f8df_16 : decode cJ7_fill_7f8df 16 = .ok (.iinc 3 1, 3) := by decide +kernel
theorem dJ7_fill_7f8df_19 : decode cJ7_fill_7f8df 19 = .ok (.goto (-13), 3) := by decide +kernel
theorem dJ7_fill_7f8df_22 : decode cJ7_fill_7f8df 22 = .ok (.return_, 1) := by decide +kernel
abbrev vwCl : List vw_C := [(RX0, TX0, 2), (RX1, TX1, 4), (RX2, TX2, 0), (RX3, TX3, 3), (RX4, TX4, 3), (RX6, TX6, 3), (RX7, TX7, 3), (RX8, TX8, 9), (RX9, TX9, 20)]

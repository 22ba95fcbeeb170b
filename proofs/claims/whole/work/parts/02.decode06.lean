theorem dX9_read_0 : decode cX9_read 0 = .ok (.aload_n 0, 1) := by decide +kernel
theorem dX9_read_1 : decode cX9_read 1 = .ok (.iconst 0, 1) := by decide +kernel
theorem dX9_read_2 : decode cX9_read 2 = .ok (.putfield 61, 3) := by decide +kernel
theorem dX9_read_5 : decode cX9_read 5 = .ok (.iload_n 1, 1) := by decide +kernel
theorem dX9_read_6 : decode cX9_read 6 = .ok (.invokestatic 178, 3) := by decide +kernel
theorem dX9_read_9 : decode cX9_read 9 = .ok (.ifCond .eq 10, 3) := by decide +kernel
theorem dX9_read_12 : decode cX9_read 12 = .ok (.iload_n 3, 1) := by decide +kernel
theorem dX9_read_13 : decode cX9_read 13 = .ok (.invokestatic 119, 3) := by decide +kernel
theorem dX9_read_16 : decode cX9_read 16 = .ok (.ifCond .ne 7, 3) := by decide +kernel
theorem dX9_read_19 : decode cX9_read 19 = .ok (.sipush (-1001), 3) := by decide +kernel
theorem dX9_read_22 : decode cX9_read 22 = .ok (.ireturn, 1) := by decide +kernel
theorem dX9_read_23 : decode cX9_read 23 = .ok (.aload_n 0, 1) := by decide +kernel
theorem dX9_read_24 : decode cX9_read 24 = .ok (.aload_n 0, 1) := by decide +kernel
theorem dX9_read_25 : decode cX9_read 25 = .ok (.iload_n 1, 1) := by decide +kernel
theorem dX9_read_26 : decode cX9_read 26 = .ok (.iload_n 2, 1) := by decide +kernel
theorem dX9_read_27 : decode cX9_read 27 = .ok (.invokevirtual 185, 3) := by decide +kernel
theorem dX9_read_30 : decode cX9_read 30 = .ok (.putfield 65, 3) := by decide +kernel
theorem dX9_read_33 : decode cX9_read 33 = .ok (.aload_n 0, 1) := by decide +kernel
theorem dX9_read_34 : decode cX9_read 34 = .ok (.getfield 65, 3) := by decide +kernel
theorem dX9_read_37 : decode cX9_read 37 = .ok (.ifCond .ne 30, 3) := by decide +kernel
theorem dX9_read_40 : decode cX9_read 40 = .ok (.aload_n 0, 1) := by decide +kernel
theorem dX9_read_41 : decode cX9_read 41 = .ok (.getfield 7, 3) := by decide +kernel
theorem dX9_read_44 : decode cX9_read 44 = .ok (.iload_n 3, 1) := by decide +kernel
theorem dX9_read_45 : decode cX9_read 45 = .ok (.iload_n 1, 1) := by decide +kernel
theorem dX9_read_46 : decode cX9_read 46 = .ok (.invokestatic 189, 3) := by decide +kernel
theorem dX9_read_49 : decode cX9_read 49 = .ok (.iastore, 1) := by decide +kernel
theorem dX9_read_50 : decode cX9_read 50 = .ok (.aload_n 0, 1) := by decide +kernel
theorem dX9_read_51 : decode cX9_read 51 = .ok (.getfield 13, 3) := by decide +kernel
theorem dX9_read_54 : decode cX9_read 54 = .ok (.iload_n 3, 1) := by decide +kernel
theorem dX9_read_55 : decode cX9_read 55 = .ok (.aload_n 0, 1) := by decide +kernel
theorem dX9_read_56 : decode cX9_read 56 = .ok (.getfield 33, 3) := by decide +kernel
theorem dX9_read_59 : decode cX9_read 59 = .ok (.bipush 16, 2) := by decide +kernel
theorem dX9_read_61 : decode cX9_read 61 = .ok (.iload_n 1, 1) := by decide +kernel
theorem dX9_read_62 : decode cX9_read 62 = .ok (.imul, 1) := by decide +kernel
theorem dX9_read_63 : decode cX9_read 63 = .ok (.iload_n 2, 1) := by decide +kernel
theorem dX9_read_64 : decode cX9_read 64 = .ok (.iadd, 1) := by decide +kernel
theorem dX9_read_65 : decode cX9_read 65 = .ok (.laload, 1) := by decide +kernel
theorem dX9_read_66 : decode cX9_read 66 = .ok (.lastore, 1) := by decide +kernel
theorem dX9_read_67 : decode cX9_read 67 = .ok (.aload_n 0, 1) := by decide +kernel
theorem dX9_read_68 : decode cX9_read 68 = .ok (.iload_n 1, 1) := by decide +kernel
theorem dX9_read_69 : decode cX9_read 69 = .ok (.invokestatic 189, 3) := by decide +kernel
theorem dX9_read_72 : decode cX9_read 72 = .ok (.invokevirtual 157, 3) := by decide +kernel
theorem dX9_read_75 : decode cX9_read 75 = .ok (.ireturn, 1) := by decide +kernel
set_option maxRecDepth 20000 in
theorem ggX9_rest_X9_isLog : GoodIn wsX9_rest wsX9_isLog := goodIn_r _ [8, 9, 10, 11, 7, 12] (by decide +kernel) (by decide +kernel)
set_option maxRecDepth 20000 in
theorem gX9_rest_X9_isLog : GoodIn wsX9_rest (va_wsS RX9 178 yX9_isLog wsX9_isLog) := goodIn_app (goodIn_of _ (by decide +kernel)) ggX9_rest_X9_isLog
set_option maxRecDepth 20000 in
theorem ggX9_rest_X9_logCause : GoodIn wsX9_rest wsX9_logCause := goodIn_r _ [16, 17, 10, 11, 7, 12, 80, 81, 82, 83, 84, 85, 86, 87, 88, 89, 90, 91, 92, 93, 94, 95, 96, 97, 98, 99] (by decide +kernel) (by decide +kernel)
set_option maxRecDepth 20000 in
theorem gX9_rest_X9_logCause : GoodIn wsX9_rest (wsV RX9 185 RX9 yX9_logCause wsX9_logCause) := goodIn_app (goodIn_of _ (by decide +kernel)) ggX9_rest_X9_logCause
set_option maxRecDepth 20000 in
theorem ggX9_rest_X9_laneOfLog : GoodIn wsX9_rest wsX9_laneOfLog := goodIn_r _ [20] (by decide +kernel) (by decide +kernel)
set_option maxRecDepth 20000 in
theorem gX9_rest_X9_laneOfLog : GoodIn wsX9_rest (va_wsS RX9 189 yX9_laneOfLog wsX9_laneOfLog) := goodIn_app (goodIn_of _ (by decide +kernel)) ggX9_rest_X9_laneOfLog
set_option maxRecDepth 20000 in
theorem ggX9_rest_X9_floatOf : GoodIn wsX9_rest wsX9_floatOf := goodIn_r _ [23, 24, 25, 26, 27] (by decide +kernel) (by decide +kernel)
set_option maxRecDepth 20000 in
theorem gX9_rest_X9_floatOf : GoodIn wsX9_rest (va_wsS RX9 102 yX9_floatOf wsX9_floatOf) := goodIn_app (goodIn_of _ (by decide +kernel)) ggX9_rest_X9_floatOf
set_option maxRecDepth 20000 in
theorem ggX9_rest_X9_reckonFloats : GoodIn wsX9_rest wsX9_reckonFloats := goodIn_r _ [31, 2, 4, 32, 33, 7, 34, 35, 36, 37, 38, 39, 40, 41, 42, 43, 27, 44, 45, 46, 47, 80, 81, 82, 83, 84, 85, 86, 87, 88, 89, 90, 91, 92, 93, 94, 95, 96, 97, 98, 99] (by decide +kernel) (by decide +kernel)
set_option maxRecDepth 20000 in
theorem gX9_rest_X9_reckonFloats : GoodIn wsX9_rest (wsV RX9 149 RX9 yX9_reckonFloats wsX9_reckonFloats) := goodIn_app (goodIn_of _ (by decide +kernel)) ggX9_rest_X9_reckonFloats
set_option maxRecDepth 20000 in
theorem ggX9_rest_X9_doubleOf : GoodIn wsX9_rest wsX9_doubleOf := goodIn_r _ [50, 51, 52, 53, 54] (by decide +kernel) (by decide +kernel)
set_option maxRecDepth 20000 in
theorem gX9_rest_X9_doubleOf : GoodIn wsX9_rest (va_wsS RX9 106 yX9_doubleOf wsX9_doubleOf) := goodIn_app (goodIn_of _ (by decide +kernel)) ggX9_rest_X9_doubleOf
set_option maxRecDepth 20000 in
theorem ggX9_rest_X9_reckonDoubles : GoodIn wsX9_rest wsX9_reckonDoubles := goodIn_r _ [58, 2, 4, 59, 60, 7, 61, 62, 63, 64, 65, 66, 67, 68, 69, 70, 54, 71, 72, 73, 74, 80, 81, 82, 83, 84, 85, 86, 87, 88, 89, 90, 91, 92, 93, 94, 95, 96, 97, 98, 99] (by decide +kernel) (by decide +kernel)
set_option maxRecDepth 20000 in
theorem gX9_rest_X9_reckonDoubles : GoodIn wsX9_rest (wsV RX9 153 RX9 yX9_reckonDoubles wsX9_reckonDoubles) := goodIn_app (goodIn_of _ (by decide +kernel)) ggX9_rest_X9_reckonDoubles
set_option maxRecDepth 20000 in
theorem ggX9_rest_X9_answers : GoodIn wsX9_rest wsX9_answers := goodIn_r _ [78, 2, 79, 80, 81, 82, 83, 84, 85, 86, 87, 88, 89, 90, 91, 92, 93, 94, 95, 96, 97, 98, 99] (by decide +kernel) (by decide +kernel)
set_option maxRecDepth 20000 in
theorem gX9_rest_X9_answers : GoodIn wsX9_rest (wsV RX9 157 RX9 yX9_answers wsX9_answers) := goodIn_app (goodIn_of _ (by decide +kernel)) ggX9_rest_X9_answers
theorem dX9_rest_0 : decode cX9_rest 0 = .ok (.aload_n 0, 1) := by decide +kernel
theorem dX9_rest_1 : decode cX9_rest 1 = .ok (.iconst 0, 1) := by decide +kernel
theorem dX9_rest_2 : decode cX9_rest 2 = .ok (.putfield 61, 3) := by decide +kernel
theorem dX9_rest_5 : decode cX9_rest 5 = .ok (.iload_n 1, 1) := by decide +kernel
theorem dX9_rest_6 : decode cX9_rest 6 = .ok (.invokestatic 178, 3) := by decide +kernel
theorem dX9_rest_9 : decode cX9_rest 9 = .ok (.ifCond .ne 7, 3) := by decide +kernel
theorem dX9_rest_12 : decode cX9_rest 12 = .ok (.sipush (-1001), 3) := by decide +kernel
theorem dX9_rest_15 : decode cX9_rest 15 = .ok (.ireturn, 1) := by decide +kernel
theorem dX9_rest_16 : decode cX9_rest 16 = .ok (.aload_n 0, 1) := by decide +kernel
theorem dX9_rest_17 : decode cX9_rest 17 = .ok (.aload_n 0, 1) := by decide +kernel
theorem dX9_rest_18 : decode cX9_rest 18 = .ok (.iload_n 1, 1) := by decide +kernel
theorem dX9_rest_19 : decode cX9_rest 19 = .ok (.iload_n 2, 1) := by decide +kernel
theorem dX9_rest_20 : decode cX9_rest 20 = .ok (.invokevirtual 185, 3) := by decide +kernel
theorem dX9_rest_23 : decode cX9_rest 23 = .ok (.putfield 65, 3) := by decide +kernel
theorem dX9_rest_26 : decode cX9_rest 26 = .ok (.aload_n 0, 1) := by decide +kernel
theorem dX9_rest_27 : decode cX9_rest 27 = .ok (.aload_n 0, 1) := by decide +kernel
theorem dX9_rest_28 : decode cX9_rest 28 = .ok (.getfield 65, 3) := by decide +kernel
theorem dX9_rest_31 : decode cX9_rest 31 = .ok (.ifCond .ne 12, 3) := by decide +kernel
theorem dX9_rest_34 : decode cX9_rest 34 = .ok (.aload_n 0, 1) := by decide +kernel
theorem dX9_rest_35 : decode cX9_rest 35 = .ok (.iload_n 1, 1) := by decide +kernel
theorem dX9_rest_36 : decode cX9_rest 36 = .ok (.iload_n 3, 1) := by decide +kernel
theorem dX9_rest_37 : decode cX9_rest 37 = .ok (.invokevirtual 185, 3) := by decide +kernel
theorem dX9_rest_40 : decode cX9_rest 40 = .ok (.goto 7, 3) := by decide +kernel
theorem dX9_rest_43 : decode cX9_rest 43 = .ok (.aload_n 0, 1) := by decide +kernel
theorem dX9_rest_44 : decode cX9_rest 44 = .ok (.getfield 65, 3) := by decide +kernel
theorem dX9_rest_47 : decode cX9_rest 47 = .ok (.putfield 65, 3) := by decide +kernel
theorem dX9_rest_50 : decode cX9_rest 50 = .ok (.aload_n 0, 1) := by decide +kernel
theorem dX9_rest_51 : decode cX9_rest 51 = .ok (.getfield 65, 3) := by decide +kernel
theorem dX9_rest_54 : decode cX9_rest 54 = .ok (.ifCond .ne 70, 3) := by decide +kernel
theorem dX9_rest_57 : decode cX9_rest 57 = .ok (.aload_n 0, 1) := by decide +kernel
theorem dX9_rest_58 : decode cX9_rest 58 = .ok (.getfield 33, 3) := by decide +kernel
theorem dX9_rest_61 : decode cX9_rest 61 = .ok (.bipush 16, 2) := by decide +kernel
theorem dX9_rest_63 : decode cX9_rest 63 = .ok (.iload_n 1, 1) := by decide +kernel
theorem dX9_rest_64 : decode cX9_rest 64 = .ok (.imul, 1) := by decide +kernel
theorem dX9_rest_65 : decode cX9_rest 65 = .ok (.iload_n 2, 1) := by decide +kernel
theorem dX9_rest_66 : decode cX9_rest 66 = .ok (.iadd, 1) := by decide +kernel
theorem dX9_rest_67 : decode cX9_rest 67 = .ok (.laload, 1) := by decide +kernel
theorem dX9_rest_68 : decode cX9_rest 68 = .ok (.lstore 4, 2) := by decide +kernel
theorem dX9_rest_70 : decode cX9_rest 70 = .ok (.aload_n 0, 1) := by decide +kernel
theorem dX9_rest_71 : decode cX9_rest 71 = .ok (.getfield 33, 3) := by decide +kernel
theorem dX9_rest_74 : decode cX9_rest 74 = .ok (.bipush 16, 2) := by decide +kernel
theorem dX9_rest_76 : decode cX9_rest 76 = .ok (.iload_n 1, 1) := by decide +kernel
theorem dX9_rest_77 : decode cX9_rest 77 = .ok (.imul, 1) := by decide +kernel
theorem dX9_rest_78 : decode cX9_rest 78 = .ok (.iload_n 3, 1) := by decide +kernel
theorem dX9_rest_79 : decode cX9_rest 79 = .ok (.iadd, 1) := by decide +kernel
theorem dX9_rest_80 : decode cX9_rest 80 = .ok (.laload, 1) := by decide +kernel
theorem dX9_rest_81 : decode cX9_rest 81 = .ok (.lstore 6, 2) := by decide +kernel
theorem dX9_rest_83 : decode cX9_rest 83 = .ok (.iload_n 1, 1) := by decide +kernel
theorem dX9_rest_84 : decode cX9_rest 84 = .ok (.invokestatic 189, 3) := by decide +kernel
theorem dX9_rest_87 : decode cX9_rest 87 = .ok (.iconst 2, 1) := by decide +kernel
theorem dX9_rest_88 : decode cX9_rest 88 = .ok (.if_icmp .ne 21, 3) := by decide +kernel
theorem dX9_rest_91 : decode cX9_rest 91 = .ok (.aload_n 0, 1) := by decide +kernel
theorem dX9_rest_92 : decode cX9_rest 92 = .ok (.iconst 4, 1) := by decide +kernel
theorem dX9_rest_93 : decode cX9_rest 93 = .ok (.lload 4, 2) := by decide +kernel
theorem dX9_rest_95 : decode cX9_rest 95 = .ok (.invokestatic 102, 3) := by decide +kernel
theorem dX9_rest_98 : decode cX9_rest 98 = .ok (.lload 6, 2) := by decide +kernel
theorem dX9_rest_100 : decode cX9_rest 100 = .ok (.invokestatic 102, 3) := by decide +kernel
theorem dX9_rest_103 : decode cX9_rest 103 = .ok (.invokevirtual 149, 3) := by decide +kernel
theorem dX9_rest_106 : decode cX9_rest 106 = .ok (.goto 18, 3) := by decide +kernel
theorem dX9_rest_109 : decode cX9_rest 109 = .ok (.aload_n 0, 1) := by decide +kernel
theorem dX9_rest_110 : decode cX9_rest 110 = .ok (.iconst 4, 1) := by decide +kernel
theorem dX9_rest_111 : decode cX9_rest 111 = .ok (.lload 4, 2) := by decide +kernel
theorem dX9_rest_113 : decode cX9_rest 113 = .ok (.invokestatic 106, 3) := by decide +kernel
theorem dX9_rest_116 : decode cX9_rest 116 = .ok (.lload 6, 2) := by decide +kernel
theorem dX9_rest_118 : decode cX9_rest 118 = .ok (.invokestatic 106, 3) := by decide +kernel
theorem dX9_rest_121 : decode cX9_rest 121 = .ok (.invokevirtual 153, 3) := by decide +kernel
theorem dX9_rest_124 : decode cX9_rest 124 = .ok (.aload_n 0, 1) := by decide +kernel
theorem dX9_rest_125 : decode cX9_rest 125 = .ok (.getfield 65, 3) := by decide +kernel
theorem dX9_rest_128 : decode cX9_rest 128 = .ok (.ifCond .ne 18, 3) := by decide +kernel
theorem dX9_rest_131 : decode cX9_rest 131 = .ok (.aload_n 0, 1) := by decide +kernel
theorem dX9_rest_132 : decode cX9_rest 132 = .ok (.getfield 33, 3) := by decide +kernel
theorem dX9_rest_135 : decode cX9_rest 135 = .ok (.bipush 16, 2) := by decide +kernel
theorem dX9_rest_137 : decode cX9_rest 137 = .ok (.iload_n 1, 1) := by decide +kernel
theorem dX9_rest_138 : decode cX9_rest 138 = .ok (.imul, 1) := by decide +kernel
theorem dX9_rest_139 : decode cX9_rest 139 = .ok (.iload_n 2, 1) := by decide +kernel
theorem dX9_rest_140 : decode cX9_rest 140 = .ok (.iadd, 1) := by decide +kernel
theorem dX9_rest_141 : decode cX9_rest 141 = .ok (.aload_n 0, 1) := by decide +kernel
theorem dX9_rest_142 : decode cX9_rest 142 = .ok (.getfield 131, 3) := by decide +kernel
theorem dX9_rest_145 : decode cX9_rest 145 = .ok (.lastore, 1) := by decide +kernel
theorem dX9_rest_146 : decode cX9_rest 146 = .ok (.aload_n 0, 1) := by decide +kernel
theorem dX9_rest_147 : decode cX9_rest 147 = .ok (.iconst 1, 1) := by decide +kernel
theorem dX9_rest_148 : decode cX9_rest 148 = .ok (.invokevirtual 157, 3) := by decide +kernel
theorem dX9_rest_151 : decode cX9_rest 151 = .ok (.ireturn, 1) := by decide +kernel
set_option maxRecDepth 20000 in
theorem ggX9_copy_X9_in : GoodIn wsX9_copy wsX9_in := goodIn_r _ [12] (by decide +kernel) (by decide +kernel)
set_option maxRecDepth 20000 in
theorem gX9_copy_X9_in : GoodIn wsX9_copy (va_wsS RX9 115 yX9_in wsX9_in) := goodIn_app (goodIn_of _ (by decide +kernel)) ggX9_copy_X9_in
set_option maxRecDepth 20000 in
theorem ggX9_copy_X9_answers : GoodIn wsX9_copy wsX9_answers := goodIn_r _ [16, 6, 8, 59, 60, 61, 62, 63, 64, 65, 66, 67, 68, 69, 70, 71, 72, 73, 74, 75, 76, 77, 78] (by decide +kernel) (by decide +kernel)
set_option maxRecDepth 20000 in
theorem gX9_copy_X9_answers : GoodIn wsX9_copy (wsV RX9 157 RX9 yX9_answers wsX9_answers) := goodIn_app (goodIn_of _ (by decide +kernel)) ggX9_copy_X9_answers
set_option maxRecDepth 20000 in
theorem ggX9_copy_X9_laneOfLog : GoodIn wsX9_copy wsX9_laneOfLog := goodIn_r _ [19] (by decide +kernel) (by decide +kernel)
set_option maxRecDepth 20000 in
theorem gX9_copy_X9_laneOfLog : GoodIn wsX9_copy (va_wsS RX9 189 yX9_laneOfLog wsX9_laneOfLog) := goodIn_app (goodIn_of _ (by decide +kernel)) ggX9_copy_X9_laneOfLog
set_option maxRecDepth 20000 in
theorem ggX9_copy_X9_turned : GoodIn wsX9_copy wsX9_turned := goodIn_r _ [22, 23, 24, 25, 26, 27, 28, 29, 30, 31, 32, 33, 34, 35, 36, 37, 38, 39, 40, 41, 42, 43, 44, 45, 46, 47, 48, 11, 49, 50, 51, 52, 53, 54, 55, 56, 57, 58] (by decide +kernel) (by decide +kernel)
set_option maxRecDepth 20000 in
theorem gX9_copy_X9_turned : GoodIn wsX9_copy (va_wsS RX9 109 yX9_turned wsX9_turned) := goodIn_app (goodIn_of _ (by decide +kernel)) ggX9_copy_X9_turned
theorem dX9_copy_0 : decode cX9_copy 0 = .ok (.aload_n 0, 1) := by decide +kernel
theorem dX9_copy_1 : decode cX9_copy 1 = .ok (.iconst 0, 1) := by decide +kernel
theorem dX9_copy_2 : decode cX9_copy 2 = .ok (.putfield 61, 3) := by decide +kernel
theorem dX9_copy_5 : decode cX9_copy 5 = .ok (.iload_n 1, 1) := by decide +kernel
theorem dX9_copy_6 : decode cX9_copy 6 = .ok (.i2l, 1) := by decide +kernel
theorem dX9_copy_7 : decode cX9_copy 7 = .ok (.ldc2_w 143, 3) := by decide +kernel
theorem dX9_copy_10 : decode cX9_copy 10 = .ok (.ldc2_w 176, 3) := by decide +kernel
theorem dX9_copy_13 : decode cX9_copy 13 = .ok (.invokestatic 115, 3) := by decide +kernel
theorem dX9_copy_16 : decode cX9_copy 16 = .ok (.ifCond .eq 15, 3) := by decide +kernel
theorem dX9_copy_19 : decode cX9_copy 19 = .ok (.iload_n 2, 1) := by decide +kernel
theorem dX9_copy_20 : decode cX9_copy 20 = .ok (.i2l, 1) := by decide +kernel
theorem dX9_copy_21 : decode cX9_copy 21 = .ok (.lconst 0, 1) := by decide +kernel
theorem dX9_copy_22 : decode cX9_copy 22 = .ok (.ldc2_w 123, 3) := by decide +kernel
theorem dX9_copy_25 : decode cX9_copy 25 = .ok (.invokestatic 115, 3) := by decide +kernel
theorem dX9_copy_28 : decode cX9_copy 28 = .ok (.ifCond .ne 7, 3) := by decide +kernel
theorem dX9_copy_31 : decode cX9_copy 31 = .ok (.sipush (-1001), 3) := by decide +kernel
theorem dX9_copy_34 : decode cX9_copy 34 = .ok (.ireturn, 1) := by decide +kernel
theorem dX9_copy_35 : decode cX9_copy 35 = .ok (.iload_n 3, 1) := by decide +kernel
theorem dX9_copy_36 : decode cX9_copy 36 = .ok (.ifCond .eq 7, 3) := by decide +kernel
theorem dX9_copy_39 : decode cX9_copy 39 = .ok (.iload_n 2, 1) := by decide +kernel
theorem dX9_copy_40 : decode cX9_copy 40 = .ok (.goto 4, 3) := by decide +kernel
theorem dX9_copy_43 : decode cX9_copy 43 = .ok (.iload_n 1, 1) := by decide +kernel
theorem dX9_copy_44 : decode cX9_copy 44 = .ok (.istore 4, 2) := by decide +kernel
theorem dX9_copy_46 : decode cX9_copy 46 = .ok (.iload_n 3, 1) := by decide +kernel
theorem dX9_copy_47 : decode cX9_copy 47 = .ok (.ifCond .eq 7, 3) := by decide +kernel
theorem dX9_copy_50 : decode cX9_copy 50 = .ok (.iload_n 1, 1) := by decide +kernel
theorem dX9_copy_51 : decode cX9_copy 51 = .ok (.goto 4, 3) := by decide +kernel
theorem dX9_copy_54 : decode cX9_copy 54 = .ok (.iload_n 2, 1) := by decide +kernel
theorem dX9_copy_55 : decode cX9_copy 55 = .ok (.istore 5, 2) := by decide +kernel
theorem dX9_copy_57 : decode cX9_copy 57 = .ok (.aload_n 0, 1) := by decide +kernel
theorem dX9_copy_58 : decode cX9_copy 58 = .ok (.aload_n 0, 1) := by decide +kernel
theorem dX9_copy_59 : decode cX9_copy 59 = .ok (.getfield 30, 3) := by decide +kernel
theorem dX9_copy_62 : decode cX9_copy 62 = .ok (.iload 4, 2) := by decide +kernel
theorem dX9_copy_64 : decode cX9_copy 64 = .ok (.iaload, 1) := by decide +kernel
theorem dX9_copy_65 : decode cX9_copy 65 = .ok (.iconst (-1), 1) := by decide +kernel
theorem dX9_copy_66 : decode cX9_copy 66 = .ok (.if_icmp .eq 24, 3) := by decide +kernel
theorem dX9_copy_69 : decode cX9_copy 69 = .ok (.aload_n 0, 1) := by decide +kernel
theorem dX9_copy_70 : decode cX9_copy 70 = .ok (.getfield 30, 3) := by decide +kernel
theorem dX9_copy_73 : decode cX9_copy 73 = .ok (.iload 4, 2) := by decide +kernel
theorem dX9_copy_75 : decode cX9_copy 75 = .ok (.iaload, 1) := by decide +kernel
theorem dX9_copy_76 : decode cX9_copy 76 = .ok (.ifCond .le 18, 3) := by decide +kernel
theorem dX9_copy_79 : decode cX9_copy 79 = .ok (.aload_n 0, 1) := by decide +kernel
theorem dX9_copy_80 : decode cX9_copy 80 = .ok (.getfield 30, 3) := by decide +kernel
theorem dX9_copy_83 : decode cX9_copy 83 = .ok (.iload 5, 2) := by decide +kernel
theorem dX9_copy_85 : decode cX9_copy 85 = .ok (.iaload, 1) := by decide +kernel
theorem dX9_copy_86 : decode cX9_copy 86 = .ok (.iconst (-1), 1) := by decide +kernel
theorem dX9_copy_87 : decode cX9_copy 87 = .ok (.if_icmp .ne 7, 3) := by decide +kernel
theorem dX9_copy_90 : decode cX9_copy 90 = .ok (.iconst 1, 1) := by decide +kernel
theorem dX9_copy_91 : decode cX9_copy 91 = .ok (.goto 4, 3) := by decide +kernel
theorem dX9_copy_94 : decode cX9_copy 94 = .ok (.iconst 0, 1) := by decide +kernel
theorem dX9_copy_95 : decode cX9_copy 95 = .ok (.putfield 65, 3) := by decide +kernel
theorem dX9_copy_98 : decode cX9_copy 98 = .ok (.aload_n 0, 1) := by decide +kernel
theorem dX9_copy_99 : decode cX9_copy 99 = .ok (.getfield 65, 3) := by decide +kernel
theorem dX9_copy_102 : decode cX9_copy 102 = .ok (.ifCond .le 9, 3) := by decide +kernel
theorem dX9_copy_105 : decode cX9_copy 105 = .ok (.aload_n 0, 1) := by decide +kernel
theorem dX9_copy_106 : decode cX9_copy 106 = .ok (.iconst 0, 1) := by decide +kernel
theorem dX9_copy_107 : decode cX9_copy 107 = .ok (.invokevirtual 157, 3) := by decide +kernel
theorem dX9_copy_110 : decode cX9_copy 110 = .ok (.ireturn, 1) := by decide +kernel
theorem dX9_copy_111 : decode cX9_copy 111 = .ok (.iconst 0, 1) := by decide +kernel
theorem dX9_copy_112 : decode cX9_copy 112 = .ok (.istore 6, 2) := by decide +kernel
theorem dX9_copy_114 : decode cX9_copy 114 = .ok (.iload 6, 2) := by decide +kernel
theorem dX9_copy_116 : decode cX9_copy 116 = .ok (.aload_n 0, 1) := by decide +kernel
theorem dX9_copy_117 : decode cX9_copy 117 = .ok (.getfield 30, 3) := by decide +kernel
theorem dX9_copy_120 : decode cX9_copy 120 = .ok (.iload 4, 2) := by decide +kernel
theorem dX9_copy_122 : decode cX9_copy 122 = .ok (.iaload, 1) := by decide +kernel
theorem dX9_copy_123 : decode cX9_copy 123 = .ok (.if_icmp .ge 60, 3) := by decide +kernel
theorem dX9_copy_126 : decode cX9_copy 126 = .ok (.iload 6, 2) := by decide +kernel
theorem dX9_copy_128 : decode cX9_copy 128 = .ok (.aload_n 0, 1) := by decide +kernel
theorem dX9_copy_129 : decode cX9_copy 129 = .ok (.getfield 30, 3) := by decide +kernel
theorem dX9_copy_132 : decode cX9_copy 132 = .ok (.iload 5, 2) := by decide +kernel
theorem dX9_copy_134 : decode cX9_copy 134 = .ok (.iaload, 1) := by decide +kernel
theorem dX9_copy_135 : decode cX9_copy 135 = .ok (.if_icmp .ge 48, 3) := by decide +kernel
theorem dX9_copy_138 : decode cX9_copy 138 = .ok (.aload_n 0, 1) := by decide +kernel
theorem dX9_copy_139 : decode cX9_copy 139 = .ok (.getfield 33, 3) := by decide +kernel
theorem dX9_copy_142 : decode cX9_copy 142 = .ok (.bipush 16, 2) := by decide +kernel
theorem dX9_copy_144 : decode cX9_copy 144 = .ok (.iload 5, 2) := by decide +kernel
theorem dX9_copy_146 : decode cX9_copy 146 = .ok (.imul, 1) := by decide +kernel
theorem dX9_copy_147 : decode cX9_copy 147 = .ok (.iload 6, 2) := by decide +kernel
theorem dX9_copy_149 : decode cX9_copy 149 = .ok (.iadd, 1) := by decide +kernel
theorem dX9_copy_150 : decode cX9_copy 150 = .ok (.iload 4, 2) := by decide +kernel
theorem dX9_copy_152 : decode cX9_copy 152 = .ok (.invokestatic 189, 3) := by decide +kernel
theorem dX9_copy_155 : decode cX9_copy 155 = .ok (.aload_n 0, 1) := by decide +kernel
theorem dX9_copy_156 : decode cX9_copy 156 = .ok (.getfield 33, 3) := by decide +kernel
theorem dX9_copy_159 : decode cX9_copy 159 = .ok (.bipush 16, 2) := by decide +kernel
theorem dX9_copy_161 : decode cX9_copy 161 = .ok (.iload 4, 2) := by decide +kernel
theorem dX9_copy_163 : decode cX9_copy 163 = .ok (.imul, 1) := by decide +kernel
theorem dX9_copy_164 : decode cX9_copy 164 = .ok (.iload 6, 2) := by decide +kernel
theorem dX9_copy_166 : decode cX9_copy 166 = .ok (.iadd, 1) := by decide +kernel
theorem dX9_copy_167 : decode cX9_copy 167 = .ok (.laload, 1) := by decide +kernel
theorem dX9_copy_168 : decode cX9_copy 168 = .ok (.iload 5, 2) := by decide +kernel
theorem dX9_copy_170 : decode cX9_copy 170 = .ok (.invokestatic 189, 3) := by decide +kernel
theorem dX9_copy_173 : decode cX9_copy 173 = .ok (.invokestatic 109, 3) := by decide +kernel
theorem dX9_copy_176 : decode cX9_copy 176 = .ok (.lastore, 1) := by decide +kernel
theorem dX9_copy_177 : decode cX9_copy 177 = .ok (.iinc 6 1, 3) := by decide +kernel
theorem dX9_copy_180 : decode cX9_copy 180 = .ok (.goto (-66), 3) := by decide +kernel
theorem dX9_copy_183 : decode cX9_copy 183 = .ok (.aload_n 0, 1) := by decide +kernel
theorem dX9_copy_184 : decode cX9_copy 184 = .ok (.iload 6, 2) := by decide +kernel
theorem dX9_copy_186 : decode cX9_copy 186 = .ok (.aload_n 0, 1) := by decide +kernel
theorem dX9_copy_187 : decode cX9_copy 187 = .ok (.getfield 30, 3) := by decide +kernel
theorem dX9_copy_190 : decode cX9_copy 190 = .ok (.iload 4, 2) := by decide +kernel
theorem dX9_copy_192 : decode cX9_copy 192 = .ok (.iaload, 1) := by decide +kernel
theorem dX9_copy_193 : decode cX9_copy 193 = .ok (.if_icmp .ge 7, 3) := by decide +kernel
theorem dX9_copy_196 : decode cX9_copy 196 = .ok (.iconst 2, 1) := by decide +kernel
theorem dX9_copy_197 : decode cX9_copy 197 = .ok (.goto 4, 3) := by decide +kernel
theorem dX9_copy_200 : decode cX9_copy 200 = .ok (.iconst 0, 1) := by decide +kernel
theorem dX9_copy_201 : decode cX9_copy 201 = .ok (.putfield 65, 3) := by decide +kernel
theorem dX9_copy_204 : decode cX9_copy 204 = .ok (.aload_n 0, 1) := by decide +kernel
theorem dX9_copy_205 : decode cX9_copy 205 = .ok (.getfield 58, 3) := by decide +kernel
theorem dX9_copy_208 : decode cX9_copy 208 = .ok (.iconst 2, 1) := by decide +kernel
theorem dX9_copy_209 : decode cX9_copy 209 = .ok (.dup2, 1) := by decide +kernel
theorem dX9_copy_210 : decode cX9_copy 210 = .ok (.iaload, 1) := by decide +kernel
theorem dX9_copy_211 : decode cX9_copy 211 = .ok (.aload_n 0, 1) := by decide +kernel
theorem dX9_copy_212 : decode cX9_copy 212 = .ok (.getfield 65, 3) := by decide +kernel
theorem dX9_copy_215 : decode cX9_copy 215 = .ok (.ifCond .le 7, 3) := by decide +kernel
theorem dX9_copy_218 : decode cX9_copy 218 = .ok (.iconst 1, 1) := by decide +kernel
theorem dX9_copy_219 : decode cX9_copy 219 = .ok (.goto 4, 3) := by decide +kernel
theorem dX9_copy_222 : decode cX9_copy 222 = .ok (.iconst 0, 1) := by decide +kernel
theorem dX9_copy_223 : decode cX9_copy 223 = .ok (.iadd, 1) := by decide +kernel
theorem dX9_copy_224 : decode cX9_copy 224 = .ok (.iastore, 1) := by decide +kernel
theorem dX9_copy_225 : decode cX9_copy 225 = .ok (.iload 6, 2) := by decide +kernel
theorem dX9_copy_227 : decode cX9_copy 227 = .ok (.ireturn, 1) := by decide +kernel
set_option maxRecDepth 20000 in
theorem ggX9_whole_X9_isLog : GoodIn wsX9_whole wsX9_isLog := goodIn_r _ [7, 8, 9, 10, 6, 11] (by decide +kernel) (by decide +kernel)
set_option maxRecDepth 20000 in
theorem gX9_whole_X9_isLog : GoodIn wsX9_whole (va_wsS RX9 178 yX9_isLog wsX9_isLog) := goodIn_app (goodIn_of _ (by decide +kernel)) ggX9_whole_X9_isLog
set_option maxRecDepth 20000 in
theorem ggX9_whole_X9_logCause : GoodIn wsX9_whole wsX9_logCause := goodIn_r _ [15, 16, 9, 10, 6, 11, 64, 65, 66, 67, 68, 69, 70, 71, 72, 73, 74, 75, 76, 77, 78, 79, 80, 81, 82, 83] (by decide +kernel) (by decide +kernel)
set_option maxRecDepth 20000 in
theorem gX9_whole_X9_logCause : GoodIn wsX9_whole (wsV RX9 185 RX9 yX9_logCause wsX9_logCause) := goodIn_app (goodIn_of _ (by decide +kernel)) ggX9_whole_X9_logCause
set_option maxRecDepth 20000 in
theorem ggX9_whole_X9_answers : GoodIn wsX9_whole wsX9_answers := goodIn_r _ [20, 2, 21, 64, 65, 66, 67, 68, 69, 70, 71, 72, 73, 74, 75, 76, 77, 78, 79, 80, 81, 82, 83] (by decide +kernel) (by decide +kernel)
set_option maxRecDepth 20000 in
theorem gX9_whole_X9_answers : GoodIn wsX9_whole (wsV RX9 157 RX9 yX9_answers wsX9_answers) := goodIn_app (goodIn_of _ (by decide +kernel)) ggX9_whole_X9_answers
set_option maxRecDepth 20000 in
theorem ggX9_whole_X9_laneOfLog : GoodIn wsX9_whole wsX9_laneOfLog := goodIn_r _ [24] (by decide +kernel) (by decide +kernel)
set_option maxRecDepth 20000 in
theorem gX9_whole_X9_laneOfLog : GoodIn wsX9_whole (va_wsS RX9 189 yX9_laneOfLog wsX9_laneOfLog) := goodIn_app (goodIn_of _ (by decide +kernel)) ggX9_whole_X9_laneOfLog
set_option maxRecDepth 20000 in
theorem ggX9_whole_X9_turned : GoodIn wsX9_whole wsX9_turned := goodIn_r _ [27, 28, 29, 30, 31, 32, 33, 34, 35, 36, 37, 38, 39, 40, 41, 42, 43, 44, 45, 46, 47, 48, 49, 50, 51, 52, 53, 6, 54, 55, 56, 57, 58, 59, 60, 61, 62, 63] (by decide +kernel) (by decide +kernel)
set_option maxRecDepth 20000 in
theorem gX9_whole_X9_turned : GoodIn wsX9_whole (va_wsS RX9 109 yX9_turned wsX9_turned) := goodIn_app (goodIn_of _ (by decide +kernel)) ggX9_whole_X9_turned
theorem dX9_whole_0 : decode cX9_whole 0 = .ok (.aload_n 0, 1) := by decide +kernel
theorem dX9_whole_1 : decode cX9_whole 1 = .ok (.iconst 0, 1) := by decide +kernel
theorem dX9_whole_2 : decode cX9_whole 2 = .ok (.putfield 61, 3) := by decide +kernel
theorem dX9_whole_5 : decode cX9_whole 5 = .ok (.iload_n 1, 1) := by decide +kernel
theorem dX9_whole_6 : decode cX9_whole 6 = .ok (.invokestatic 178, 3) := by decide +kernel
theorem dX9_whole_9 : decode cX9_whole 9 = .ok (.ifCond .ne 5, 3) := by decide +kernel
theorem dX9_whole_12 : decode cX9_whole 12 = .ok (.lconst 0, 1) := by decide +kernel
theorem dX9_whole_13 : decode cX9_whole 13 = .ok (.lreturn, 1) := by decide +kernel
theorem dX9_whole_14 : decode cX9_whole 14 = .ok (.aload_n 0, 1) := by decide +kernel
theorem dX9_whole_15 : decode cX9_whole 15 = .ok (.aload_n 0, 1) := by decide +kernel
theorem dX9_whole_16 : decode cX9_whole 16 = .ok (.iload_n 1, 1) := by decide +kernel
theorem dX9_whole_17 : decode cX9_whole 17 = .ok (.iload_n 2, 1) := by decide +kernel
theorem dX9_whole_18 : decode cX9_whole 18 = .ok (.invokevirtual 185, 3) := by decide +kernel
theorem dX9_whole_21 : decode cX9_whole 21 = .ok (.putfield 65, 3) := by decide +kernel
theorem dX9_whole_24 : decode cX9_whole 24 = .ok (.aload_n 0, 1) := by decide +kernel
theorem dX9_whole_25 : decode cX9_whole 25 = .ok (.iconst 0, 1) := by decide +kernel
theorem dX9_whole_26 : decode cX9_whole 26 = .ok (.invokevirtual 157, 3) := by decide +kernel
theorem dX9_whole_29 : decode cX9_whole 29 = .ok (.ifCond .ne 25, 3) := by decide +kernel
theorem dX9_whole_32 : decode cX9_whole 32 = .ok (.iload_n 1, 1) := by decide +kernel
theorem dX9_whole_33 : decode cX9_whole 33 = .ok (.invokestatic 189, 3) := by decide +kernel
theorem dX9_whole_36 : decode cX9_whole 36 = .ok (.aload_n 0, 1) := by decide +kernel
theorem dX9_whole_37 : decode cX9_whole 37 = .ok (.getfield 33, 3) := by decide +kernel
theorem dX9_whole_40 : decode cX9_whole 40 = .ok (.bipush 16, 2) := by decide +kernel
theorem dX9_whole_42 : decode cX9_whole 42 = .ok (.iload_n 1, 1) := by decide +kernel
theorem dX9_whole_43 : decode cX9_whole 43 = .ok (.imul, 1) := by decide +kernel
theorem dX9_whole_44 : decode cX9_whole 44 = .ok (.iload_n 2, 1) := by decide +kernel
theorem dX9_whole_45 : decode cX9_whole 45 = .ok (.iadd, 1) := by decide +kernel
theorem dX9_whole_46 : decode cX9_whole 46 = .ok (.laload, 1) := by decide +kernel
theorem dX9_whole_47 : decode cX9_whole 47 = .ok (.iconst 1, 1) := by decide +kernel
theorem dX9_whole_48 : decode cX9_whole 48 = .ok (.invokestatic 109, 3) := by decide +kernel
theorem dX9_whole_51 : decode cX9_whole 51 = .ok (.goto 4, 3) := by decide +kernel
theorem dX9_whole_54 : decode cX9_whole 54 = .ok (.lconst 0, 1) := by decide +kernel
theorem dX9_whole_55 : decode cX9_whole 55 = .ok (.lreturn, 1) := by decide +kernel
set_option maxRecDepth 20000 in
theorem ggX9_isRack_X9_in : GoodIn wsX9_isRack wsX9_in := goodIn_r _ [5] (by decide +kernel) (by decide +kernel)
set_option maxRecDepth 20000 in
theorem gX9_isRack_X9_in : GoodIn wsX9_isRack (va_wsS RX9 115 yX9_in wsX9_in) := goodIn_app (goodIn_of _ (by decide +kernel)) ggX9_isRack_X9_in
theorem dX9_isRack_0 : decode cX9_isRack 0 = .ok (.iload_n 0, 1) := by decide +kernel
theorem dX9_isRack_1 : decode cX9_isRack 1 = .ok (.i2l, 1) := by decide +kernel
theorem dX9_isRack_2 : decode cX9_isRack 2 = .ok (.lconst 0, 1) := by decide +kernel
theorem dX9_isRack_3 : decode cX9_isRack 3 = .ok (.ldc2_w 143, 3) := by decide +kernel
theorem dX9_isRack_6 : decode cX9_isRack 6 = .ok (.invokestatic 115, 3) := by decide +kernel
theorem dX9_isRack_9 : decode cX9_isRack 9 = .ok (.ireturn, 1) := by decide +kernel
set_option maxRecDepth 20000 in
theorem ggX9_isSpool_X9_in : GoodIn wsX9_isSpool wsX9_in := goodIn_r _ [5] (by decide +kernel) (by decide +kernel)
set_option maxRecDepth 20000 in
theorem gX9_isSpool_X9_in : GoodIn wsX9_isSpool (va_wsS RX9 115 yX9_in wsX9_in) := goodIn_app (goodIn_of _ (by decide +kernel)) ggX9_isSpool_X9_in
theorem dX9_isSpool_0 : decode cX9_isSpool 0 = .ok (.iload_n 1, 1) := by decide +kernel
theorem dX9_isSpool_1 : decode cX9_isSpool 1 = .ok (.i2l, 1) := by decide +kernel
theorem dX9_isSpool_2 : decode cX9_isSpool 2 = .ok (.lconst 0, 1) := by decide +kernel
theorem dX9_isSpool_3 : decode cX9_isSpool 3 = .ok (.aload_n 0, 1) := by decide +kernel
theorem dX9_isSpool_4 : decode cX9_isSpool 4 = .ok (.getfield 192, 3) := by decide +kernel
theorem dX9_isSpool_7 : decode cX9_isSpool 7 = .ok (.iconst 1, 1) := by decide +kernel
theorem dX9_isSpool_8 : decode cX9_isSpool 8 = .ok (.isub, 1) := by decide +kernel
theorem dX9_isSpool_9 : decode cX9_isSpool 9 = .ok (.i2l, 1) := by decide +kernel
theorem dX9_isSpool_10 : decode cX9_isSpool 10 = .ok (.invokestatic 115, 3) := by decide +kernel
theorem dX9_isSpool_13 : decode cX9_isSpool 13 = .ok (.ireturn, 1) := by decide +kernel
set_option maxRecDepth 20000 in
theorem ggX9_spool_X9_in : GoodIn wsX9_spool wsX9_in := goodIn_r _ [9] (by decide +kernel) (by decide +kernel)
set_option maxRecDepth 20000 in
theorem gX9_spool_X9_in : GoodIn wsX9_spool (va_wsS RX9 115 yX9_in wsX9_in) := goodIn_app (goodIn_of _ (by decide +kernel)) ggX9_spool_X9_in
theorem dX9_spool_0 : decode cX9_spool 0 = .ok (.aload_n 0, 1) := by decide +kernel
theorem dX9_spool_1 : decode cX9_spool 1 = .ok (.iconst 0, 1) := by decide +kernel
theorem dX9_spool_2 : decode cX9_spool 2 = .ok (.putfield 61, 3) := by decide +kernel
theorem dX9_spool_5 : decode cX9_spool 5 = .ok (.iload_n 1, 1) := by decide +kernel
theorem dX9_spool_6 : decode cX9_spool 6 = .ok (.i2l, 1) := by decide +kernel
theorem dX9_spool_7 : decode cX9_spool 7 = .ok (.lconst 0, 1) := by decide +kernel
theorem dX9_spool_8 : decode cX9_spool 8 = .ok (.ldc2_w 195, 3) := by decide +kernel
theorem dX9_spool_11 : decode cX9_spool 11 = .ok (.invokestatic 115, 3) := by decide +kernel
theorem dX9_spool_14 : decode cX9_spool 14 = .ok (.ifCond .ne 7, 3) := by decide +kernel
theorem dX9_spool_17 : decode cX9_spool 17 = .ok (.sipush (-1002), 3) := by decide +kernel
theorem dX9_spool_20 : decode cX9_spool 20 = .ok (.ireturn, 1) := by decide +kernel
theorem dX9_spool_21 : decode cX9_spool 21 = .ok (.aload_n 0, 1) := by decide +kernel
theorem dX9_spool_22 : decode cX9_spool 22 = .ok (.getfield 192, 3) := by decide +kernel
theorem dX9_spool_25 : decode cX9_spool 25 = .ok (.bipush 30, 2) := by decide +kernel
theorem dX9_spool_27 : decode cX9_spool 27 = .ok (.if_icmp .ne 7, 3) := by decide +kernel
theorem dX9_spool_30 : decode cX9_spool 30 = .ok (.sipush (-1003), 3) := by decide +kernel
theorem dX9_spool_33 : decode cX9_spool 33 = .ok (.ireturn, 1) := by decide +kernel
theorem dX9_spool_34 : decode cX9_spool 34 = .ok (.aload_n 0, 1) := by decide +kernel
theorem dX9_spool_35 : decode cX9_spool 35 = .ok (.getfield 36, 3) := by decide +kernel
theorem dX9_spool_38 : decode cX9_spool 38 = .ok (.aload_n 0, 1) := by decide +kernel
theorem dX9_spool_39 : decode cX9_spool 39 = .ok (.getfield 192, 3) := by decide +kernel
theorem dX9_spool_42 : decode cX9_spool 42 = .ok (.iload_n 1, 1) := by decide +kernel
theorem dX9_spool_43 : decode cX9_spool 43 = .ok (.iastore, 1) := by decide +kernel
theorem dX9_spool_44 : decode cX9_spool 44 = .ok (.aload_n 0, 1) := by decide +kernel
theorem dX9_spool_45 : decode cX9_spool 45 = .ok (.getfield 39, 3) := by decide +kernel
theorem dX9_spool_48 : decode cX9_spool 48 = .ok (.aload_n 0, 1) := by decide +kernel
theorem dX9_spool_49 : decode cX9_spool 49 = .ok (.getfield 192, 3) := by decide +kernel
theorem dX9_spool_52 : decode cX9_spool 52 = .ok (.iload_n 2, 1) := by decide +kernel
theorem dX9_spool_53 : decode cX9_spool 53 = .ok (.bastore, 1) := by decide +kernel
theorem dX9_spool_54 : decode cX9_spool 54 = .ok (.aload_n 0, 1) := by decide +kernel
theorem dX9_spool_55 : decode cX9_spool 55 = .ok (.dup, 1) := by decide +kernel
theorem dX9_spool_56 : decode cX9_spool 56 = .ok (.getfield 192, 3) := by decide +kernel
theorem dX9_spool_59 : decode cX9_spool 59 = .ok (.iconst 1, 1) := by decide +kernel
theorem dX9_spool_60 : decode cX9_spool 60 = .ok (.iadd, 1) := by decide +kernel
theorem dX9_spool_61 : decode cX9_spool 61 = .ok (.putfield 192, 3) := by decide +kernel
theorem dX9_spool_64 : decode cX9_spool 64 = .ok (.aload_n 0, 1) := by decide +kernel
theorem dX9_spool_65 : decode cX9_spool 65 = .ok (.getfield 192, 3) := by decide +kernel
theorem dX9_spool_68 : decode cX9_spool 68 = .ok (.iconst 1, 1) := by decide +kernel
theorem dX9_spool_69 : decode cX9_spool 69 = .ok (.isub, 1) := by decide +kernel
theorem dX9_spool_70 : decode cX9_spool 70 = .ok (.ireturn, 1) := by decide +kernel
set_option maxRecDepth 20000 in
theorem ggX9_rack_X9_isRack : GoodIn wsX9_rack wsX9_isRack := goodIn_r _ [10, 11, 12, 13, 9, 14] (by decide +kernel) (by decide +kernel)
set_option maxRecDepth 20000 in
theorem gX9_rack_X9_isRack : GoodIn wsX9_rack (va_wsS RX9 197 yX9_isRack wsX9_isRack) := goodIn_app (goodIn_of _ (by decide +kernel)) ggX9_rack_X9_isRack
set_option maxRecDepth 20000 in
theorem ggX9_rack_X9_in : GoodIn wsX9_rack wsX9_in := goodIn_r _ [14] (by decide +kernel) (by decide +kernel)
set_option maxRecDepth 20000 in
theorem gX9_rack_X9_in : GoodIn wsX9_rack (va_wsS RX9 115 yX9_in wsX9_in) := goodIn_app (goodIn_of _ (by decide +kernel)) ggX9_rack_X9_in
theorem dX9_rack_0 : decode cX9_rack 0 = .ok (.aload_n 0, 1) := by decide +kernel
theorem dX9_rack_1 : decode cX9_rack 1 = .ok (.iconst 0, 1) := by decide +kernel
theorem dX9_rack_2 : decode cX9_rack 2 = .ok (.putfield 61, 3) := by decide +kernel
theorem dX9_rack_5 : decode cX9_rack 5 = .ok (.iload_n 1, 1) := by decide +kernel
theorem dX9_rack_6 : decode cX9_rack 6 = .ok (.invokestatic 197, 3) := by decide +kernel
theorem dX9_rack_9 : decode cX9_rack 9 = .ok (.ifCond .ne 7, 3) := by decide +kernel
theorem dX9_rack_12 : decode cX9_rack 12 = .ok (.sipush (-1001), 3) := by decide +kernel
theorem dX9_rack_15 : decode cX9_rack 15 = .ok (.ireturn, 1) := by decide +kernel
theorem dX9_rack_16 : decode cX9_rack 16 = .ok (.iload_n 3, 1) := by decide +kernel
theorem dX9_rack_17 : decode cX9_rack 17 = .ok (.i2l, 1) := by decide +kernel
theorem dX9_rack_18 : decode cX9_rack 18 = .ok (.ldc2_w 181, 3) := by decide +kernel
theorem dX9_rack_21 : decode cX9_rack 21 = .ok (.ldc2_w 200, 3) := by decide +kernel
theorem dX9_rack_24 : decode cX9_rack 24 = .ok (.invokestatic 115, 3) := by decide +kernel
theorem dX9_rack_27 : decode cX9_rack 27 = .ok (.ifCond .ne 7, 3) := by decide +kernel
theorem dX9_rack_30 : decode cX9_rack 30 = .ok (.sipush (-1002), 3) := by decide +kernel
theorem dX9_rack_33 : decode cX9_rack 33 = .ok (.ireturn, 1) := by decide +kernel
theorem dX9_rack_34 : decode cX9_rack 34 = .ok (.aload_n 0, 1) := by decide +kernel
theorem dX9_rack_35 : decode cX9_rack 35 = .ok (.getfield 43, 3) := by decide +kernel
theorem dX9_rack_38 : decode cX9_rack 38 = .ok (.iload_n 1, 1) := by decide +kernel
theorem dX9_rack_39 : decode cX9_rack 39 = .ok (.iload_n 3, 1) := by decide +kernel
theorem dX9_rack_40 : decode cX9_rack 40 = .ok (.iastore, 1) := by decide +kernel
theorem dX9_rack_41 : decode cX9_rack 41 = .ok (.aload_n 0, 1) := by decide +kernel
theorem dX9_rack_42 : decode cX9_rack 42 = .ok (.getfield 46, 3) := by decide +kernel
theorem dX9_rack_45 : decode cX9_rack 45 = .ok (.iload_n 1, 1) := by decide +kernel
theorem dX9_rack_46 : decode cX9_rack 46 = .ok (.iload_n 2, 1) := by decide +kernel
theorem dX9_rack_47 : decode cX9_rack 47 = .ok (.bastore, 1) := by decide +kernel
theorem dX9_rack_48 : decode cX9_rack 48 = .ok (.iconst 0, 1) := by decide +kernel
theorem dX9_rack_49 : decode cX9_rack 49 = .ok (.istore 4, 2) := by decide +kernel
theorem dX9_rack_51 : decode cX9_rack 51 = .ok (.iload 4, 2) := by decide +kernel
theorem dX9_rack_53 : decode cX9_rack 53 = .ok (.iload_n 3, 1) := by decide +kernel
theorem dX9_rack_54 : decode cX9_rack 54 = .ok (.if_icmp .ge 22, 3) := by decide +kernel
theorem dX9_rack_57 : decode cX9_rack 57 = .ok (.aload_n 0, 1) := by decide +kernel
theorem dX9_rack_58 : decode cX9_rack 58 = .ok (.getfield 49, 3) := by decide +kernel
theorem dX9_rack_61 : decode cX9_rack 61 = .ok (.bipush 12, 2) := by decide +kernel
theorem dX9_rack_63 : decode cX9_rack 63 = .ok (.iload_n 1, 1) := by decide +kernel
theorem dX9_rack_64 : decode cX9_rack 64 = .ok (.imul, 1) := by decide +kernel
theorem dX9_rack_65 : decode cX9_rack 65 = .ok (.iload 4, 2) := by decide +kernel
theorem dX9_rack_67 : decode cX9_rack 67 = .ok (.iadd, 1) := by decide +kernel
theorem dX9_rack_68 : decode cX9_rack 68 = .ok (.iconst (-1), 1) := by decide +kernel
theorem dX9_rack_69 : decode cX9_rack 69 = .ok (.iastore, 1) := by decide +kernel
theorem dX9_rack_70 : decode cX9_rack 70 = .ok (.iinc 4 1, 3) := by decide +kernel
theorem dX9_rack_73 : decode cX9_rack 73 = .ok (.goto (-22), 3) := by decide +kernel
theorem dX9_rack_76 : decode cX9_rack 76 = .ok (.iconst 1, 1) := by decide +kernel
theorem dX9_rack_77 : decode cX9_rack 77 = .ok (.ireturn, 1) := by decide +kernel
set_option maxRecDepth 20000 in
theorem ggX9_rackCause_X9_in : GoodIn wsX9_rackCause wsX9_in := goodIn_r _ [5] (by decide +kernel) (by decide +kernel)
set_option maxRecDepth 20000 in
theorem gX9_rackCause_X9_in : GoodIn wsX9_rackCause (va_wsS RX9 115 yX9_in wsX9_in) := goodIn_app (goodIn_of _ (by decide +kernel)) ggX9_rackCause_X9_in
theorem dX9_rackCause_0 : decode cX9_rackCause 0 = .ok (.aload_n 0, 1) := by decide +kernel
theorem dX9_rackCause_1 : decode cX9_rackCause 1 = .ok (.getfield 43, 3) := by decide +kernel
theorem dX9_rackCause_4 : decode cX9_rackCause 4 = .ok (.iload_n 1, 1) := by decide +kernel
theorem dX9_rackCause_5 : decode cX9_rackCause 5 = .ok (.iaload, 1) := by decide +kernel
theorem dX9_rackCause_6 : decode cX9_rackCause 6 = .ok (.iconst (-1), 1) := by decide +kernel
theorem dX9_rackCause_7 : decode cX9_rackCause 7 = .ok (.if_icmp .ne 7, 3) := by decide +kernel
theorem dX9_rackCause_10 : decode cX9_rackCause 10 = .ok (.iconst 1, 1) := by decide +kernel
theorem dX9_rackCause_11 : decode cX9_rackCause 11 = .ok (.goto 26, 3) := by decide +kernel
theorem dX9_rackCause_14 : decode cX9_rackCause 14 = .ok (.iload_n 2, 1) := by decide +kernel
theorem dX9_rackCause_15 : decode cX9_rackCause 15 = .ok (.i2l, 1) := by decide +kernel
theorem dX9_rackCause_16 : decode cX9_rackCause 16 = .ok (.lconst 0, 1) := by decide +kernel
theorem dX9_rackCause_17 : decode cX9_rackCause 17 = .ok (.aload_n 0, 1) := by decide +kernel
theorem dX9_rackCause_18 : decode cX9_rackCause 18 = .ok (.getfield 43, 3) := by decide +kernel
theorem dX9_rackCause_21 : decode cX9_rackCause 21 = .ok (.iload_n 1, 1) := by decide +kernel
theorem dX9_rackCause_22 : decode cX9_rackCause 22 = .ok (.iaload, 1) := by decide +kernel
theorem dX9_rackCause_23 : decode cX9_rackCause 23 = .ok (.iconst 1, 1) := by decide +kernel
theorem dX9_rackCause_24 : decode cX9_rackCause 24 = .ok (.isub, 1) := by decide +kernel
theorem dX9_rackCause_25 : decode cX9_rackCause 25 = .ok (.i2l, 1) := by decide +kernel
theorem dX9_rackCause_26 : decode cX9_rackCause 26 = .ok (.invokestatic 115, 3) := by decide +kernel
theorem dX9_rackCause_29 : decode cX9_rackCause 29 = .ok (.ifCond .eq 7, 3) := by decide +kernel
theorem dX9_rackCause_32 : decode cX9_rackCause 32 = .ok (.iconst 0, 1) := by decide +kernel
theorem dX9_rackCause_33 : decode cX9_rackCause 33 = .ok (.goto 4, 3) := by decide +kernel
theorem dX9_rackCause_36 : decode cX9_rackCause 36 = .ok (.iconst 2, 1) := by decide +kernel
theorem dX9_rackCause_37 : decode cX9_rackCause 37 = .ok (.ireturn, 1) := by decide +kernel
set_option maxRecDepth 20000 in
theorem ggX9_put_X9_isRack : GoodIn wsX9_put wsX9_isRack := goodIn_r _ [9, 10, 11, 12, 8, 13] (by decide +kernel) (by decide +kernel)
set_option maxRecDepth 20000 in
theorem gX9_put_X9_isRack : GoodIn wsX9_put (va_wsS RX9 197 yX9_isRack wsX9_isRack) := goodIn_app (goodIn_of _ (by decide +kernel)) ggX9_put_X9_isRack
set_option maxRecDepth 20000 in
theorem ggX9_put_X9_isSpool : GoodIn wsX9_put wsX9_isSpool := goodIn_r _ [17, 18, 11, 12, 8, 13, 29, 30, 31, 32, 33, 34, 35, 36, 37, 38, 39, 40, 41, 42, 43, 44, 45, 46, 47, 48] (by decide +kernel) (by decide +kernel)
set_option maxRecDepth 20000 in
theorem gX9_put_X9_isSpool : GoodIn wsX9_put (wsV RX9 202 RX9 yX9_isSpool wsX9_isSpool) := goodIn_app (goodIn_of _ (by decide +kernel)) ggX9_put_X9_isSpool
set_option maxRecDepth 20000 in
theorem ggX9_put_X9_rackCause : GoodIn wsX9_put wsX9_rackCause := goodIn_r _ [22, 23, 11, 12, 8, 13, 29, 30, 31, 32, 33, 34, 35, 36, 37, 38, 39, 40, 41, 42, 43, 44, 45, 46, 47, 48] (by decide +kernel) (by decide +kernel)
set_option maxRecDepth 20000 in
theorem gX9_put_X9_rackCause : GoodIn wsX9_put (wsV RX9 205 RX9 yX9_rackCause wsX9_rackCause) := goodIn_app (goodIn_of _ (by decide +kernel)) ggX9_put_X9_rackCause
set_option maxRecDepth 20000 in
theorem ggX9_put_X9_answers : GoodIn wsX9_put wsX9_answers := goodIn_r _ [27, 2, 28, 29, 30, 31, 32, 33, 34, 35, 36, 37, 38, 39, 40, 41, 42, 43, 44, 45, 46, 47, 48] (by decide +kernel) (by decide +kernel)
set_option maxRecDepth 20000 in
theorem gX9_put_X9_answers : GoodIn wsX9_put (wsV RX9 157 RX9 yX9_answers wsX9_answers) := goodIn_app (goodIn_of _ (by decide +kernel)) ggX9_put_X9_answers
theorem dX9_put_0 : decode cX9_put 0 = .ok (.aload_n 0, 1) := by decide +kernel
theorem dX9_put_1 : decode cX9_put 1 = .ok (.iconst 0, 1) := by decide +kernel
theorem dX9_put_2 : decode cX9_put 2 = .ok (.putfield 61, 3) := by decide +kernel
theorem dX9_put_5 : decode cX9_put 5 = .ok (.iload_n 1, 1) := by decide +kernel
theorem dX9_put_6 : decode cX9_put 6 = .ok (.invokestatic 197, 3) := by decide +kernel
theorem dX9_put_9 : decode cX9_put 9 = .ok (.ifCond .eq 16, 3) := by decide +kernel
theorem dX9_put_12 : decode cX9_put 12 = .ok (.iload_n 3, 1) := by decide +kernel
theorem dX9_put_13 : decode cX9_put 13 = .ok (.iconst (-1), 1) := by decide +kernel
theorem dX9_put_14 : decode cX9_put 14 = .ok (.if_icmp .eq 15, 3) := by decide +kernel
theorem dX9_put_17 : decode cX9_put 17 = .ok (.aload_n 0, 1) := by decide +kernel
theorem dX9_put_18 : decode cX9_put 18 = .ok (.iload_n 3, 1) := by decide +kernel
theorem dX9_put_19 : decode cX9_put 19 = .ok (.invokevirtual 202, 3) := by decide +kernel
theorem dX9_put_22 : decode cX9_put 22 = .ok (.ifCond .ne 7, 3) := by decide +kernel
theorem dX9_put_25 : decode cX9_put 25 = .ok (.sipush (-1001), 3) := by decide +kernel
theorem dX9_put_28 : decode cX9_put 28 = .ok (.ireturn, 1) := by decide +kernel
theorem dX9_put_29 : decode cX9_put 29 = .ok (.aload_n 0, 1) := by decide +kernel
theorem dX9_put_30 : decode cX9_put 30 = .ok (.aload_n 0, 1) := by decide +kernel
theorem dX9_put_31 : decode cX9_put 31 = .ok (.iload_n 1, 1) := by decide +kernel
theorem dX9_put_32 : decode cX9_put 32 = .ok (.iload_n 2, 1) := by decide +kernel
theorem dX9_put_33 : decode cX9_put 33 = .ok (.invokevirtual 205, 3) := by decide +kernel
theorem dX9_put_36 : decode cX9_put 36 = .ok (.putfield 65, 3) := by decide +kernel
theorem dX9_put_39 : decode cX9_put 39 = .ok (.aload_n 0, 1) := by decide +kernel
theorem dX9_put_40 : decode cX9_put 40 = .ok (.getfield 65, 3) := by decide +kernel
theorem dX9_put_43 : decode cX9_put 43 = .ok (.ifCond .ne 31, 3) := by decide +kernel
theorem dX9_put_46 : decode cX9_put 46 = .ok (.iload_n 3, 1) := by decide +kernel
theorem dX9_put_47 : decode cX9_put 47 = .ok (.iconst (-1), 1) := by decide +kernel
theorem dX9_put_48 : decode cX9_put 48 = .ok (.if_icmp .eq 26, 3) := by decide +kernel
theorem dX9_put_51 : decode cX9_put 51 = .ok (.aload_n 0, 1) := by decide +kernel
theorem dX9_put_52 : decode cX9_put 52 = .ok (.getfield 46, 3) := by decide +kernel
theorem dX9_put_55 : decode cX9_put 55 = .ok (.iload_n 1, 1) := by decide +kernel
theorem dX9_put_56 : decode cX9_put 56 = .ok (.baload, 1) := by decide +kernel
theorem dX9_put_57 : decode cX9_put 57 = .ok (.ifCond .eq 17, 3) := by decide +kernel
theorem dX9_put_60 : decode cX9_put 60 = .ok (.aload_n 0, 1) := by decide +kernel
theorem dX9_put_61 : decode cX9_put 61 = .ok (.getfield 39, 3) := by decide +kernel
theorem dX9_put_64 : decode cX9_put 64 = .ok (.iload_n 3, 1) := by decide +kernel
theorem dX9_put_65 : decode cX9_put 65 = .ok (.baload, 1) := by decide +kernel
theorem dX9_put_66 : decode cX9_put 66 = .ok (.ifCond .ne 8, 3) := by decide +kernel
theorem dX9_put_69 : decode cX9_put 69 = .ok (.aload_n 0, 1) := by decide +kernel
theorem dX9_put_70 : decode cX9_put 70 = .ok (.iconst 3, 1) := by decide +kernel
theorem dX9_put_71 : decode cX9_put 71 = .ok (.putfield 65, 3) := by decide +kernel
theorem dX9_put_74 : decode cX9_put 74 = .ok (.aload_n 0, 1) := by decide +kernel
theorem dX9_put_75 : decode cX9_put 75 = .ok (.getfield 65, 3) := by decide +kernel
theorem dX9_put_78 : decode cX9_put 78 = .ok (.ifCond .ne 15, 3) := by decide +kernel
theorem dX9_put_81 : decode cX9_put 81 = .ok (.aload_n 0, 1) := by decide +kernel
theorem dX9_put_82 : decode cX9_put 82 = .ok (.getfield 49, 3) := by decide +kernel
theorem dX9_put_85 : decode cX9_put 85 = .ok (.bipush 12, 2) := by decide +kernel
theorem dX9_put_87 : decode cX9_put 87 = .ok (.iload_n 1, 1) := by decide +kernel
theorem dX9_put_88 : decode cX9_put 88 = .ok (.imul, 1) := by decide +kernel
theorem dX9_put_89 : decode cX9_put 89 = .ok (.iload_n 2, 1) := by decide +kernel
theorem dX9_put_90 : decode cX9_put 90 = .ok (.iadd, 1) := by decide +kernel
theorem dX9_put_91 : decode cX9_put 91 = .ok (.iload_n 3, 1) := by decide +kernel
theorem dX9_put_92 : decode cX9_put 92 = .ok (.iastore, 1) := by decide +kernel
theorem dX9_put_93 : decode cX9_put 93 = .ok (.aload_n 0, 1) := by decide +kernel
theorem dX9_put_94 : decode cX9_put 94 = .ok (.iconst 1, 1) := by decide +kernel
theorem dX9_put_95 : decode cX9_put 95 = .ok (.invokevirtual 157, 3) := by decide +kernel
theorem dX9_put_98 : decode cX9_put 98 = .ok (.ireturn, 1) := by decide +kernel
set_option maxRecDepth 20000 in
theorem ggX9_at_X9_isRack : GoodIn wsX9_at wsX9_isRack := goodIn_r _ [7, 8, 9, 10, 6, 11] (by decide +kernel) (by decide +kernel)
set_option maxRecDepth 20000 in
theorem gX9_at_X9_isRack : GoodIn wsX9_at (va_wsS RX9 197 yX9_isRack wsX9_isRack) := goodIn_app (goodIn_of _ (by decide +kernel)) ggX9_at_X9_isRack
set_option maxRecDepth 20000 in
theorem ggX9_at_X9_rackCause : GoodIn wsX9_at wsX9_rackCause := goodIn_r _ [15, 16, 9, 10, 6, 11, 22, 23, 24, 25, 26, 27, 28, 29, 30, 31, 32, 33, 34, 35, 36, 37, 38, 39, 40, 41] (by decide +kernel) (by decide +kernel)
set_option maxRecDepth 20000 in
theorem gX9_at_X9_rackCause : GoodIn wsX9_at (wsV RX9 205 RX9 yX9_rackCause wsX9_rackCause) := goodIn_app (goodIn_of _ (by decide +kernel)) ggX9_at_X9_rackCause
set_option maxRecDepth 20000 in
theorem ggX9_at_X9_answers : GoodIn wsX9_at wsX9_answers := goodIn_r _ [20, 2, 21, 22, 23, 24, 25, 26, 27, 28, 29, 30, 31, 32, 33, 34, 35, 36, 37, 38, 39, 40, 41] (by decide +kernel) (by decide +kernel)
set_option maxRecDepth 20000 in
theorem gX9_at_X9_answers : GoodIn wsX9_at (wsV RX9 157 RX9 yX9_answers wsX9_answers) := goodIn_app (goodIn_of _ (by decide +kernel)) ggX9_at_X9_answers
theorem dX9_at_0 : decode cX9_at 0 = .ok (.aload_n 0, 1) := by decide +kernel
theorem dX9_at_1 : decode cX9_at 1 = .ok (.iconst 0, 1) := by decide +kernel
theorem dX9_at_2 : decode cX9_at 2 = .ok (.putfield 61, 3) := by decide +kernel
theorem dX9_at_5 : decode cX9_at 5 = .ok (.iload_n 1, 1) := by decide +kernel
theorem dX9_at_6 : decode cX9_at 6 = .ok (.invokestatic 197, 3) := by decide +kernel
theorem dX9_at_9 : decode cX9_at 9 = .ok (.ifCond .ne 7, 3) := by decide +kernel
theorem dX9_at_12 : decode cX9_at 12 = .ok (.sipush (-1001), 3) := by decide +kernel
theorem dX9_at_15 : decode cX9_at 15 = .ok (.ireturn, 1) := by decide +kernel
theorem dX9_at_16 : decode cX9_at 16 = .ok (.aload_n 0, 1) := by decide +kernel
theorem dX9_at_17 : decode cX9_at 17 = .ok (.aload_n 0, 1) := by decide +kernel
theorem dX9_at_18 : decode cX9_at 18 = .ok (.iload_n 1, 1) := by decide +kernel
theorem dX9_at_19 : decode cX9_at 19 = .ok (.iload_n 2, 1) := by decide +kernel
theorem dX9_at_20 : decode cX9_at 20 = .ok (.invokevirtual 205, 3) := by decide +kernel
theorem dX9_at_23 : decode cX9_at 23 = .ok (.putfield 65, 3) := by decide +kernel
theorem dX9_at_26 : decode cX9_at 26 = .ok (.aload_n 0, 1) := by decide +kernel
theorem dX9_at_27 : decode cX9_at 27 = .ok (.getfield 65, 3) := by decide +kernel
theorem dX9_at_30 : decode cX9_at 30 = .ok (.ifCond .le 11, 3) := by decide +kernel
theorem dX9_at_33 : decode cX9_at 33 = .ok (.aload_n 0, 1) := by decide +kernel
theorem dX9_at_34 : decode cX9_at 34 = .ok (.iconst 0, 1) := by decide +kernel
theorem dX9_at_35 : decode cX9_at 35 = .ok (.invokevirtual 157, 3) := by decide +kernel
theorem dX9_at_38 : decode cX9_at 38 = .ok (.goto 14, 3) := by decide +kernel
theorem dX9_at_41 : decode cX9_at 41 = .ok (.aload_n 0, 1) := by decide +kernel
theorem dX9_at_42 : decode cX9_at 42 = .ok (.getfield 49, 3) := by decide +kernel
theorem dX9_at_45 : decode cX9_at 45 = .ok (.bipush 12, 2) := by decide +kernel
theorem dX9_at_47 : decode cX9_at 47 = .ok (.iload_n 1, 1) := by decide +kernel
theorem dX9_at_48 : decode cX9_at 48 = .ok (.imul, 1) := by decide +kernel
theorem dX9_at_49 : decode cX9_at 49 = .ok (.iload_n 2, 1) := by decide +kernel
theorem dX9_at_50 : decode cX9_at 50 = .ok (.iadd, 1) := by decide +kernel
theorem dX9_at_51 : decode cX9_at 51 = .ok (.iaload, 1) := by decide +kernel
theorem dX9_at_52 : decode cX9_at 52 = .ok (.ireturn, 1) := by decide +kernel
set_option maxRecDepth 20000 in
theorem ggX9_weight_X9_isRack : GoodIn wsX9_weight wsX9_isRack := goodIn_r _ [9, 10, 11, 12, 8, 13] (by decide +kernel) (by decide +kernel)
set_option maxRecDepth 20000 in
theorem gX9_weight_X9_isRack : GoodIn wsX9_weight (va_wsS RX9 197 yX9_isRack wsX9_isRack) := goodIn_app (goodIn_of _ (by decide +kernel)) ggX9_weight_X9_isRack
set_option maxRecDepth 20000 in
theorem ggX9_weight_X9_rackCause : GoodIn wsX9_weight wsX9_rackCause := goodIn_r _ [17, 18, 11, 12, 8, 13, 24, 25, 26, 27, 28, 29, 30, 31, 32, 33, 34, 35, 36, 37, 38, 39, 40, 41, 42, 43] (by decide +kernel) (by decide +kernel)
set_option maxRecDepth 20000 in
theorem gX9_weight_X9_rackCause : GoodIn wsX9_weight (wsV RX9 205 RX9 yX9_rackCause wsX9_rackCause) := goodIn_app (goodIn_of _ (by decide +kernel)) ggX9_weight_X9_rackCause
set_option maxRecDepth 20000 in
theorem ggX9_weight_X9_answers : GoodIn wsX9_weight wsX9_answers := goodIn_r _ [22, 2, 23, 24, 25, 26, 27, 28, 29, 30, 31, 32, 33, 34, 35, 36, 37, 38, 39, 40, 41, 42, 43] (by decide +kernel) (by decide +kernel)
set_option maxRecDepth 20000 in
theorem gX9_weight_X9_answers : GoodIn wsX9_weight (wsV RX9 157 RX9 yX9_answers wsX9_answers) := goodIn_app (goodIn_of _ (by decide +kernel)) ggX9_weight_X9_answers
theorem dX9_weight_0 : decode cX9_weight 0 = .ok (.aload_n 0, 1) := by decide +kernel
theorem dX9_weight_1 : decode cX9_weight 1 = .ok (.iconst 0, 1) := by decide +kernel
theorem dX9_weight_2 : decode cX9_weight 2 = .ok (.putfield 61, 3) := by decide +kernel
theorem dX9_weight_5 : decode cX9_weight 5 = .ok (.iload_n 1, 1) := by decide +kernel
theorem dX9_weight_6 : decode cX9_weight 6 = .ok (.invokestatic 197, 3) := by decide +kernel
theorem dX9_weight_9 : decode cX9_weight 9 = .ok (.ifCond .ne 7, 3) := by decide +kernel
theorem dX9_weight_12 : decode cX9_weight 12 = .ok (.sipush (-1001), 3) := by decide +kernel
theorem dX9_weight_15 : decode cX9_weight 15 = .ok (.ireturn, 1) := by decide +kernel
theorem dX9_weight_16 : decode cX9_weight 16 = .ok (.aload_n 0, 1) := by decide +kernel
theorem dX9_weight_17 : decode cX9_weight 17 = .ok (.aload_n 0, 1) := by decide +kernel
theorem dX9_weight_18 : decode cX9_weight 18 = .ok (.iload_n 1, 1) := by decide +kernel
theorem dX9_weight_19 : decode cX9_weight 19 = .ok (.iload_n 2, 1) := by decide +kernel
theorem dX9_weight_20 : decode cX9_weight 20 = .ok (.invokevirtual 205, 3) := by decide +kernel
theorem dX9_weight_23 : decode cX9_weight 23 = .ok (.putfield 65, 3) := by decide +kernel
theorem dX9_weight_26 : decode cX9_weight 26 = .ok (.aload_n 0, 1) := by decide +kernel
theorem dX9_weight_27 : decode cX9_weight 27 = .ok (.getfield 65, 3) := by decide +kernel
theorem dX9_weight_30 : decode cX9_weight 30 = .ok (.ifCond .le 9, 3) := by decide +kernel
theorem dX9_weight_33 : decode cX9_weight 33 = .ok (.aload_n 0, 1) := by decide +kernel
theorem dX9_weight_34 : decode cX9_weight 34 = .ok (.iconst 0, 1) := by decide +kernel
theorem dX9_weight_35 : decode cX9_weight 35 = .ok (.invokevirtual 157, 3) := by decide +kernel
theorem dX9_weight_38 : decode cX9_weight 38 = .ok (.ireturn, 1) := by decide +kernel
theorem dX9_weight_39 : decode cX9_weight 39 = .ok (.aload_n 0, 1) := by decide +kernel
theorem dX9_weight_40 : decode cX9_weight 40 = .ok (.getfield 49, 3) := by decide +kernel
theorem dX9_weight_43 : decode cX9_weight 43 = .ok (.bipush 12, 2) := by decide +kernel
theorem dX9_weight_45 : decode cX9_weight 45 = .ok (.iload_n 1, 1) := by decide +kernel
theorem dX9_weight_46 : decode cX9_weight 46 = .ok (.imul, 1) := by decide +kernel
theorem dX9_weight_47 : decode cX9_weight 47 = .ok (.iload_n 2, 1) := by decide +kernel
theorem dX9_weight_48 : decode cX9_weight 48 = .ok (.iadd, 1) := by decide +kernel

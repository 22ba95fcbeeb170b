theorem dX9_in_7 : decode cX9_in 7 = .ok (.lload 4, 2) := by decide +kernel
theorem dX9_in_9 : decode cX9_in 9 = .ok (.lcmp, 1) := by decide +kernel
theorem dX9_in_10 : decode cX9_in 10 = .ok (.ifCond .gt 7, 3) := by decide +kernel
theorem dX9_in_13 : decode cX9_in 13 = .ok (.iconst 1, 1) := by decide +kernel
theorem dX9_in_14 : decode cX9_in 14 = .ok (.goto 4, 3) := by decide +kernel
theorem dX9_in_17 : decode cX9_in 17 = .ok (.iconst 0, 1) := by decide +kernel
theorem dX9_in_18 : decode cX9_in 18 = .ok (.ireturn, 1) := by decide +kernel
theorem dX9_answers_0 : decode cX9_answers 0 = .ok (.aload_n 0, 1) := by decide +kernel
theorem dX9_answers_1 : decode cX9_answers 1 = .ok (.getfield 65, 3) := by decide +kernel
theorem dX9_answers_4 : decode cX9_answers 4 = .ok (.ifCond .ne 5, 3) := by decide +kernel
theorem dX9_answers_7 : decode cX9_answers 7 = .ok (.iload_n 1, 1) := by decide +kernel
theorem dX9_answers_8 : decode cX9_answers 8 = .ok (.ireturn, 1) := by decide +kernel
theorem dX9_answers_9 : decode cX9_answers 9 = .ok (.aload_n 0, 1) := by decide +kernel
theorem dX9_answers_10 : decode cX9_answers 10 = .ok (.getfield 58, 3) := by decide +kernel
theorem dX9_answers_13 : decode cX9_answers 13 = .ok (.aload_n 0, 1) := by decide +kernel
theorem dX9_answers_14 : decode cX9_answers 14 = .ok (.getfield 65, 3) := by decide +kernel
theorem dX9_answers_17 : decode cX9_answers 17 = .ok (.dup2, 1) := by decide +kernel
theorem dX9_answers_18 : decode cX9_answers 18 = .ok (.iaload, 1) := by decide +kernel
theorem dX9_answers_19 : decode cX9_answers 19 = .ok (.iconst 1, 1) := by decide +kernel
theorem dX9_answers_20 : decode cX9_answers 20 = .ok (.iadd, 1) := by decide +kernel
theorem dX9_answers_21 : decode cX9_answers 21 = .ok (.iastore, 1) := by decide +kernel
theorem dX9_answers_22 : decode cX9_answers 22 = .ok (.bipush (-10), 2) := by decide +kernel
theorem dX9_answers_24 : decode cX9_answers 24 = .ok (.aload_n 0, 1) := by decide +kernel
theorem dX9_answers_25 : decode cX9_answers 25 = .ok (.getfield 65, 3) := by decide +kernel
theorem dX9_answers_28 : decode cX9_answers 28 = .ok (.isub, 1) := by decide +kernel
theorem dX9_answers_29 : decode cX9_answers 29 = .ok (.ireturn, 1) := by decide +kernel
theorem dX9_isNumber_0 : decode cX9_isNumber 0 = .ok (.iload_n 0, 1) := by decide +kernel
theorem dX9_isNumber_1 : decode cX9_isNumber 1 = .ok (.iconst 2, 1) := by decide +kernel
theorem dX9_isNumber_2 : decode cX9_isNumber 2 = .ok (.if_icmp .ne 21, 3) := by decide +kernel
theorem dX9_isNumber_5 : decode cX9_isNumber 5 = .ok (.lload_n 1, 1) := by decide +kernel
theorem dX9_isNumber_6 : decode cX9_isNumber 6 = .ok (.ldc2_w 68, 3) := by decide +kernel
theorem dX9_isNumber_9 : decode cX9_isNumber 9 = .ok (.land, 1) := by decide +kernel
theorem dX9_isNumber_10 : decode cX9_isNumber 10 = .ok (.ldc2_w 70, 3) := by decide +kernel
theorem dX9_isNumber_13 : decode cX9_isNumber 13 = .ok (.lcmp, 1) := by decide +kernel
theorem dX9_isNumber_14 : decode cX9_isNumber 14 = .ok (.ifCond .gt 7, 3) := by decide +kernel
theorem dX9_isNumber_17 : decode cX9_isNumber 17 = .ok (.iconst 1, 1) := by decide +kernel
theorem dX9_isNumber_18 : decode cX9_isNumber 18 = .ok (.goto 4, 3) := by decide +kernel
theorem dX9_isNumber_21 : decode cX9_isNumber 21 = .ok (.iconst 0, 1) := by decide +kernel
theorem dX9_isNumber_22 : decode cX9_isNumber 22 = .ok (.ireturn, 1) := by decide +kernel
theorem dX9_isNumber_23 : decode cX9_isNumber 23 = .ok (.iload_n 0, 1) := by decide +kernel
theorem dX9_isNumber_24 : decode cX9_isNumber 24 = .ok (.iconst 3, 1) := by decide +kernel
theorem dX9_isNumber_25 : decode cX9_isNumber 25 = .ok (.if_icmp .ne 15, 3) := by decide +kernel
theorem dX9_isNumber_28 : decode cX9_isNumber 28 = .ok (.lload_n 1, 1) := by decide +kernel
theorem dX9_isNumber_29 : decode cX9_isNumber 29 = .ok (.ldc2_w 72, 3) := by decide +kernel
theorem dX9_isNumber_32 : decode cX9_isNumber 32 = .ok (.land, 1) := by decide +kernel
theorem dX9_isNumber_33 : decode cX9_isNumber 33 = .ok (.ldc2_w 74, 3) := by decide +kernel
theorem dX9_isNumber_36 : decode cX9_isNumber 36 = .ok (.lcmp, 1) := by decide +kernel
theorem dX9_isNumber_37 : decode cX9_isNumber 37 = .ok (.ifCond .gt 7, 3) := by decide +kernel
theorem dX9_isNumber_40 : decode cX9_isNumber 40 = .ok (.iconst 1, 1) := by decide +kernel
theorem dX9_isNumber_41 : decode cX9_isNumber 41 = .ok (.goto 4, 3) := by decide +kernel
theorem dX9_isNumber_44 : decode cX9_isNumber 44 = .ok (.iconst 0, 1) := by decide +kernel
theorem dX9_isNumber_45 : decode cX9_isNumber 45 = .ok (.ireturn, 1) := by decide +kernel
theorem dX9_isEndless_0 : decode cX9_isEndless 0 = .ok (.dload_n 0, 1) := by decide +kernel
theorem dX9_isEndless_1 : decode cX9_isEndless 1 = .ok (.ldc2_w 76, 3) := by decide +kernel
theorem dX9_isEndless_4 : decode cX9_isEndless 4 = .ok (.dcmp .l, 1) := by decide +kernel
theorem dX9_isEndless_5 : decode cX9_isEndless 5 = .ok (.ifCond .gt 11, 3) := by decide +kernel
theorem dX9_isEndless_8 : decode cX9_isEndless 8 = .ok (.dload_n 0, 1) := by decide +kernel
theorem dX9_isEndless_9 : decode cX9_isEndless 9 = .ok (.ldc2_w 78, 3) := by decide +kernel
theorem dX9_isEndless_12 : decode cX9_isEndless 12 = .ok (.dcmp .g, 1) := by decide +kernel
theorem dX9_isEndless_13 : decode cX9_isEndless 13 = .ok (.ifCond .ge 7, 3) := by decide +kernel
theorem dX9_isEndless_16 : decode cX9_isEndless 16 = .ok (.iconst 1, 1) := by decide +kernel
theorem dX9_isEndless_17 : decode cX9_isEndless 17 = .ok (.goto 4, 3) := by decide +kernel
theorem dX9_isEndless_20 : decode cX9_isEndless 20 = .ok (.iconst 0, 1) := by decide +kernel
theorem dX9_isEndless_21 : decode cX9_isEndless 21 = .ok (.ireturn, 1) := by decide +kernel
theorem dX9_isEndlessFloat_0 : decode cX9_isEndlessFloat 0 = .ok (.fload_n 0, 1) := by decide +kernel
theorem dX9_isEndlessFloat_1 : decode cX9_isEndlessFloat 1 = .ok (.ldc 80, 2) := by decide +kernel
theorem dX9_isEndlessFloat_3 : decode cX9_isEndlessFloat 3 = .ok (.fcmp .l, 1) := by decide +kernel
theorem dX9_isEndlessFloat_4 : decode cX9_isEndlessFloat 4 = .ok (.ifCond .gt 10, 3) := by decide +kernel
theorem dX9_isEndlessFloat_7 : decode cX9_isEndlessFloat 7 = .ok (.fload_n 0, 1) := by decide +kernel
theorem dX9_isEndlessFloat_8 : decode cX9_isEndlessFloat 8 = .ok (.ldc 81, 2) := by decide +kernel
theorem dX9_isEndlessFloat_10 : decode cX9_isEndlessFloat 10 = .ok (.fcmp .g, 1) := by decide +kernel
theorem dX9_isEndlessFloat_11 : decode cX9_isEndlessFloat 11 = .ok (.ifCond .ge 7, 3) := by decide +kernel
theorem dX9_isEndlessFloat_14 : decode cX9_isEndlessFloat 14 = .ok (.iconst 1, 1) := by decide +kernel
theorem dX9_isEndlessFloat_15 : decode cX9_isEndlessFloat 15 = .ok (.goto 4, 3) := by decide +kernel
theorem dX9_isEndlessFloat_18 : decode cX9_isEndlessFloat 18 = .ok (.iconst 0, 1) := by decide +kernel
theorem dX9_isEndlessFloat_19 : decode cX9_isEndlessFloat 19 = .ok (.ireturn, 1) := by decide +kernel
theorem dX9_floatOf_0 : decode cX9_floatOf 0 = .ok (.lload_n 0, 1) := by decide +kernel
theorem dX9_floatOf_1 : decode cX9_floatOf 1 = .ok (.l2i, 1) := by decide +kernel
theorem dX9_floatOf_2 : decode cX9_floatOf 2 = .ok (.invokestatic 82, 3) := by decide +kernel
theorem dX9_floatOf_5 : decode cX9_floatOf 5 = .ok (.freturn, 1) := by decide +kernel
theorem dX9_doubleOf_0 : decode cX9_doubleOf 0 = .ok (.lload_n 0, 1) := by decide +kernel
theorem dX9_doubleOf_1 : decode cX9_doubleOf 1 = .ok (.invokestatic 88, 3) := by decide +kernel
theorem dX9_doubleOf_4 : decode cX9_doubleOf 4 = .ok (.dreturn, 1) := by decide +kernel
set_option maxRecDepth 20000 in
theorem ggX9_turned_Jxf58ca_floatToIntBits_5c35a : GoodIn wsX9_turned wsJxf58ca_floatToIntBits_5c35a := goodIn_r _ [4, 5, 6, 7, 8, 9, 10, 11, 3, 12] (by decide +kernel) (by decide +kernel)
set_option maxRecDepth 20000 in
theorem gX9_turned_Jxf58ca_floatToIntBits_5c35a : GoodIn wsX9_turned (va_wsS RX9 94 yJxf58ca_floatToIntBits_5c35a wsJxf58ca_floatToIntBits_5c35a) := goodIn_app (goodIn_of _ (by decide +kernel)) ggX9_turned_Jxf58ca_floatToIntBits_5c35a
set_option maxRecDepth 20000 in
theorem ggX9_turned_Jxe99ae_doubleToLongBits_ccdee : GoodIn wsX9_turned wsJxe99ae_doubleToLongBits_ccdee := goodIn_r _ [16, 17, 18, 19, 20, 21, 22, 23, 15, 24] (by decide +kernel) (by decide +kernel)
set_option maxRecDepth 20000 in
theorem gX9_turned_Jxe99ae_doubleToLongBits_ccdee : GoodIn wsX9_turned (va_wsS RX9 98 yJxe99ae_doubleToLongBits_ccdee wsJxe99ae_doubleToLongBits_ccdee) := goodIn_app (goodIn_of _ (by decide +kernel)) ggX9_turned_Jxe99ae_doubleToLongBits_ccdee
set_option maxRecDepth 20000 in
theorem ggX9_turned_X9_floatOf : GoodIn wsX9_turned wsX9_floatOf := goodIn_r _ [28, 29, 30, 31, 8] (by decide +kernel) (by decide +kernel)
set_option maxRecDepth 20000 in
theorem gX9_turned_X9_floatOf : GoodIn wsX9_turned (va_wsS RX9 102 yX9_floatOf wsX9_floatOf) := goodIn_app (goodIn_of _ (by decide +kernel)) ggX9_turned_X9_floatOf
set_option maxRecDepth 20000 in
theorem ggX9_turned_X9_doubleOf : GoodIn wsX9_turned wsX9_doubleOf := goodIn_r _ [34, 35, 36, 37, 20] (by decide +kernel) (by decide +kernel)
set_option maxRecDepth 20000 in
theorem gX9_turned_X9_doubleOf : GoodIn wsX9_turned (va_wsS RX9 106 yX9_doubleOf wsX9_doubleOf) := goodIn_app (goodIn_of _ (by decide +kernel)) ggX9_turned_X9_doubleOf
theorem dX9_turned_0 : decode cX9_turned 0 = .ok (.iload_n 0, 1) := by decide +kernel
theorem dX9_turned_1 : decode cX9_turned 1 = .ok (.iload_n 3, 1) := by decide +kernel
theorem dX9_turned_2 : decode cX9_turned 2 = .ok (.if_icmp .ne 5, 3) := by decide +kernel
theorem dX9_turned_5 : decode cX9_turned 5 = .ok (.lload_n 1, 1) := by decide +kernel
theorem dX9_turned_6 : decode cX9_turned 6 = .ok (.lreturn, 1) := by decide +kernel
theorem dX9_turned_7 : decode cX9_turned 7 = .ok (.iload_n 0, 1) := by decide +kernel
theorem dX9_turned_8 : decode cX9_turned 8 = .ok (.iconst 2, 1) := by decide +kernel
theorem dX9_turned_9 : decode cX9_turned 9 = .ok (.if_icmp .ge 42, 3) := by decide +kernel
theorem dX9_turned_12 : decode cX9_turned 12 = .ok (.iload_n 3, 1) := by decide +kernel
theorem dX9_turned_13 : decode cX9_turned 13 = .ok (.ifCond .ne 9, 3) := by decide +kernel
theorem dX9_turned_16 : decode cX9_turned 16 = .ok (.lload_n 1, 1) := by decide +kernel
theorem dX9_turned_17 : decode cX9_turned 17 = .ok (.l2i, 1) := by decide +kernel
theorem dX9_turned_18 : decode cX9_turned 18 = .ok (.i2l, 1) := by decide +kernel
theorem dX9_turned_19 : decode cX9_turned 19 = .ok (.goto 31, 3) := by decide +kernel
theorem dX9_turned_22 : decode cX9_turned 22 = .ok (.iload_n 3, 1) := by decide +kernel
theorem dX9_turned_23 : decode cX9_turned 23 = .ok (.iconst 1, 1) := by decide +kernel
theorem dX9_turned_24 : decode cX9_turned 24 = .ok (.if_icmp .ne 7, 3) := by decide +kernel
theorem dX9_turned_27 : decode cX9_turned 27 = .ok (.lload_n 1, 1) := by decide +kernel
theorem dX9_turned_28 : decode cX9_turned 28 = .ok (.goto 22, 3) := by decide +kernel
theorem dX9_turned_31 : decode cX9_turned 31 = .ok (.iload_n 3, 1) := by decide +kernel
theorem dX9_turned_32 : decode cX9_turned 32 = .ok (.iconst 2, 1) := by decide +kernel
theorem dX9_turned_33 : decode cX9_turned 33 = .ok (.if_icmp .ne 12, 3) := by decide +kernel
theorem dX9_turned_36 : decode cX9_turned 36 = .ok (.lload_n 1, 1) := by decide +kernel
theorem dX9_turned_37 : decode cX9_turned 37 = .ok (.l2f, 1) := by decide +kernel
theorem dX9_turned_38 : decode cX9_turned 38 = .ok (.invokestatic 94, 3) := by decide +kernel
theorem dX9_turned_41 : decode cX9_turned 41 = .ok (.i2l, 1) := by decide +kernel
theorem dX9_turned_42 : decode cX9_turned 42 = .ok (.goto 8, 3) := by decide +kernel
theorem dX9_turned_45 : decode cX9_turned 45 = .ok (.lload_n 1, 1) := by decide +kernel
theorem dX9_turned_46 : decode cX9_turned 46 = .ok (.l2d, 1) := by decide +kernel
theorem dX9_turned_47 : decode cX9_turned 47 = .ok (.invokestatic 98, 3) := by decide +kernel
theorem dX9_turned_50 : decode cX9_turned 50 = .ok (.lreturn, 1) := by decide +kernel
theorem dX9_turned_51 : decode cX9_turned 51 = .ok (.iload_n 0, 1) := by decide +kernel
theorem dX9_turned_52 : decode cX9_turned 52 = .ok (.iconst 2, 1) := by decide +kernel
theorem dX9_turned_53 : decode cX9_turned 53 = .ok (.if_icmp .ne 38, 3) := by decide +kernel
theorem dX9_turned_56 : decode cX9_turned 56 = .ok (.lload_n 1, 1) := by decide +kernel
theorem dX9_turned_57 : decode cX9_turned 57 = .ok (.invokestatic 102, 3) := by decide +kernel
theorem dX9_turned_60 : decode cX9_turned 60 = .ok (.fstore 4, 2) := by decide +kernel
theorem dX9_turned_62 : decode cX9_turned 62 = .ok (.iload_n 3, 1) := by decide +kernel
theorem dX9_turned_63 : decode cX9_turned 63 = .ok (.ifCond .ne 10, 3) := by decide +kernel
theorem dX9_turned_66 : decode cX9_turned 66 = .ok (.fload 4, 2) := by decide +kernel
theorem dX9_turned_68 : decode cX9_turned 68 = .ok (.f2i, 1) := by decide +kernel
theorem dX9_turned_69 : decode cX9_turned 69 = .ok (.i2l, 1) := by decide +kernel
theorem dX9_turned_70 : decode cX9_turned 70 = .ok (.goto 20, 3) := by decide +kernel
theorem dX9_turned_73 : decode cX9_turned 73 = .ok (.iload_n 3, 1) := by decide +kernel
theorem dX9_turned_74 : decode cX9_turned 74 = .ok (.iconst 1, 1) := by decide +kernel
theorem dX9_turned_75 : decode cX9_turned 75 = .ok (.if_icmp .ne 9, 3) := by decide +kernel
theorem dX9_turned_78 : decode cX9_turned 78 = .ok (.fload 4, 2) := by decide +kernel
theorem dX9_turned_80 : decode cX9_turned 80 = .ok (.f2l, 1) := by decide +kernel
theorem dX9_turned_81 : decode cX9_turned 81 = .ok (.goto 9, 3) := by decide +kernel
theorem dX9_turned_84 : decode cX9_turned 84 = .ok (.fload 4, 2) := by decide +kernel
theorem dX9_turned_86 : decode cX9_turned 86 = .ok (.f2d, 1) := by decide +kernel
theorem dX9_turned_87 : decode cX9_turned 87 = .ok (.invokestatic 98, 3) := by decide +kernel
theorem dX9_turned_90 : decode cX9_turned 90 = .ok (.lreturn, 1) := by decide +kernel
theorem dX9_turned_91 : decode cX9_turned 91 = .ok (.lload_n 1, 1) := by decide +kernel
theorem dX9_turned_92 : decode cX9_turned 92 = .ok (.invokestatic 106, 3) := by decide +kernel
theorem dX9_turned_95 : decode cX9_turned 95 = .ok (.dstore 4, 2) := by decide +kernel
theorem dX9_turned_97 : decode cX9_turned 97 = .ok (.iload_n 3, 1) := by decide +kernel
theorem dX9_turned_98 : decode cX9_turned 98 = .ok (.ifCond .ne 10, 3) := by decide +kernel
theorem dX9_turned_101 : decode cX9_turned 101 = .ok (.dload 4, 2) := by decide +kernel
theorem dX9_turned_103 : decode cX9_turned 103 = .ok (.d2i, 1) := by decide +kernel
theorem dX9_turned_104 : decode cX9_turned 104 = .ok (.i2l, 1) := by decide +kernel
theorem dX9_turned_105 : decode cX9_turned 105 = .ok (.goto 21, 3) := by decide +kernel
theorem dX9_turned_108 : decode cX9_turned 108 = .ok (.iload_n 3, 1) := by decide +kernel
theorem dX9_turned_109 : decode cX9_turned 109 = .ok (.iconst 1, 1) := by decide +kernel
theorem dX9_turned_110 : decode cX9_turned 110 = .ok (.if_icmp .ne 9, 3) := by decide +kernel
theorem dX9_turned_113 : decode cX9_turned 113 = .ok (.dload 4, 2) := by decide +kernel
theorem dX9_turned_115 : decode cX9_turned 115 = .ok (.d2l, 1) := by decide +kernel
theorem dX9_turned_116 : decode cX9_turned 116 = .ok (.goto 10, 3) := by decide +kernel
theorem dX9_turned_119 : decode cX9_turned 119 = .ok (.dload 4, 2) := by decide +kernel
theorem dX9_turned_121 : decode cX9_turned 121 = .ok (.d2f, 1) := by decide +kernel
theorem dX9_turned_122 : decode cX9_turned 122 = .ok (.invokestatic 94, 3) := by decide +kernel
theorem dX9_turned_125 : decode cX9_turned 125 = .ok (.i2l, 1) := by decide +kernel
theorem dX9_turned_126 : decode cX9_turned 126 = .ok (.lreturn, 1) := by decide +kernel
set_option maxRecDepth 20000 in
theorem ggX9_asDouble_X9_turned : GoodIn wsX9_asDouble wsX9_turned := goodIn_r _ [6, 7, 8, 9, 10, 11, 12, 13, 14, 15, 16, 17, 18, 19, 20, 21, 22, 23, 24, 25, 26, 27, 28, 29, 30, 31, 32, 5, 33, 34, 35, 36, 37, 38, 39, 40, 41, 42] (by decide +kernel) (by decide +kernel)
set_option maxRecDepth 20000 in
theorem gX9_asDouble_X9_turned : GoodIn wsX9_asDouble (va_wsS RX9 109 yX9_turned wsX9_turned) := goodIn_app (goodIn_of _ (by decide +kernel)) ggX9_asDouble_X9_turned
set_option maxRecDepth 20000 in
theorem ggX9_asDouble_X9_doubleOf : GoodIn wsX9_asDouble wsX9_doubleOf := goodIn_r _ [39, 40, 41, 42, 26] (by decide +kernel) (by decide +kernel)
set_option maxRecDepth 20000 in
theorem gX9_asDouble_X9_doubleOf : GoodIn wsX9_asDouble (va_wsS RX9 106 yX9_doubleOf wsX9_doubleOf) := goodIn_app (goodIn_of _ (by decide +kernel)) ggX9_asDouble_X9_doubleOf
theorem dX9_asDouble_0 : decode cX9_asDouble 0 = .ok (.aload_n 0, 1) := by decide +kernel
theorem dX9_asDouble_1 : decode cX9_asDouble 1 = .ok (.getfield 7, 3) := by decide +kernel
theorem dX9_asDouble_4 : decode cX9_asDouble 4 = .ok (.iload_n 1, 1) := by decide +kernel
theorem dX9_asDouble_5 : decode cX9_asDouble 5 = .ok (.iaload, 1) := by decide +kernel
theorem dX9_asDouble_6 : decode cX9_asDouble 6 = .ok (.aload_n 0, 1) := by decide +kernel
theorem dX9_asDouble_7 : decode cX9_asDouble 7 = .ok (.getfield 13, 3) := by decide +kernel
theorem dX9_asDouble_10 : decode cX9_asDouble 10 = .ok (.iload_n 1, 1) := by decide +kernel
theorem dX9_asDouble_11 : decode cX9_asDouble 11 = .ok (.laload, 1) := by decide +kernel
theorem dX9_asDouble_12 : decode cX9_asDouble 12 = .ok (.iconst 3, 1) := by decide +kernel
theorem dX9_asDouble_13 : decode cX9_asDouble 13 = .ok (.invokestatic 109, 3) := by decide +kernel
theorem dX9_asDouble_16 : decode cX9_asDouble 16 = .ok (.invokestatic 106, 3) := by decide +kernel
theorem dX9_asDouble_19 : decode cX9_asDouble 19 = .ok (.dreturn, 1) := by decide +kernel
set_option maxRecDepth 20000 in
theorem ggX9_isMeter_X9_in : GoodIn wsX9_isMeter wsX9_in := goodIn_r _ [5] (by decide +kernel) (by decide +kernel)
set_option maxRecDepth 20000 in
theorem gX9_isMeter_X9_in : GoodIn wsX9_isMeter (va_wsS RX9 115 yX9_in wsX9_in) := goodIn_app (goodIn_of _ (by decide +kernel)) ggX9_isMeter_X9_in
theorem dX9_isMeter_0 : decode cX9_isMeter 0 = .ok (.iload_n 0, 1) := by decide +kernel
theorem dX9_isMeter_1 : decode cX9_isMeter 1 = .ok (.i2l, 1) := by decide +kernel
theorem dX9_isMeter_2 : decode cX9_isMeter 2 = .ok (.lconst 0, 1) := by decide +kernel
theorem dX9_isMeter_3 : decode cX9_isMeter 3 = .ok (.ldc2_w 113, 3) := by decide +kernel
theorem dX9_isMeter_6 : decode cX9_isMeter 6 = .ok (.invokestatic 115, 3) := by decide +kernel
theorem dX9_isMeter_9 : decode cX9_isMeter 9 = .ok (.ireturn, 1) := by decide +kernel
set_option maxRecDepth 20000 in
theorem ggX9_set_X9_isMeter : GoodIn wsX9_set wsX9_isMeter := goodIn_r _ [8, 9, 10, 11, 7, 12] (by decide +kernel) (by decide +kernel)
set_option maxRecDepth 20000 in
theorem gX9_set_X9_isMeter : GoodIn wsX9_set (va_wsS RX9 119 yX9_isMeter wsX9_isMeter) := goodIn_app (goodIn_of _ (by decide +kernel)) ggX9_set_X9_isMeter
set_option maxRecDepth 20000 in
theorem ggX9_set_X9_in : GoodIn wsX9_set wsX9_in := goodIn_r _ [12] (by decide +kernel) (by decide +kernel)
set_option maxRecDepth 20000 in
theorem gX9_set_X9_in : GoodIn wsX9_set (va_wsS RX9 115 yX9_in wsX9_in) := goodIn_app (goodIn_of _ (by decide +kernel)) ggX9_set_X9_in
set_option maxRecDepth 20000 in
theorem ggX9_set_X9_isNumber : GoodIn wsX9_set wsX9_isNumber := goodIn_r _ [15, 16, 17, 18, 19] (by decide +kernel) (by decide +kernel)
set_option maxRecDepth 20000 in
theorem gX9_set_X9_isNumber : GoodIn wsX9_set (va_wsS RX9 125 yX9_isNumber wsX9_isNumber) := goodIn_app (goodIn_of _ (by decide +kernel)) ggX9_set_X9_isNumber
theorem dX9_set_0 : decode cX9_set 0 = .ok (.aload_n 0, 1) := by decide +kernel
theorem dX9_set_1 : decode cX9_set 1 = .ok (.iconst 0, 1) := by decide +kernel
theorem dX9_set_2 : decode cX9_set 2 = .ok (.putfield 61, 3) := by decide +kernel
theorem dX9_set_5 : decode cX9_set 5 = .ok (.iload_n 1, 1) := by decide +kernel
theorem dX9_set_6 : decode cX9_set 6 = .ok (.invokestatic 119, 3) := by decide +kernel
theorem dX9_set_9 : decode cX9_set 9 = .ok (.ifCond .ne 7, 3) := by decide +kernel
theorem dX9_set_12 : decode cX9_set 12 = .ok (.sipush (-1001), 3) := by decide +kernel
theorem dX9_set_15 : decode cX9_set 15 = .ok (.ireturn, 1) := by decide +kernel
theorem dX9_set_16 : decode cX9_set 16 = .ok (.iload_n 2, 1) := by decide +kernel
theorem dX9_set_17 : decode cX9_set 17 = .ok (.i2l, 1) := by decide +kernel
theorem dX9_set_18 : decode cX9_set 18 = .ok (.lconst 0, 1) := by decide +kernel
theorem dX9_set_19 : decode cX9_set 19 = .ok (.ldc2_w 123, 3) := by decide +kernel
theorem dX9_set_22 : decode cX9_set 22 = .ok (.invokestatic 115, 3) := by decide +kernel
theorem dX9_set_25 : decode cX9_set 25 = .ok (.ifCond .eq 11, 3) := by decide +kernel
theorem dX9_set_28 : decode cX9_set 28 = .ok (.iload_n 2, 1) := by decide +kernel
theorem dX9_set_29 : decode cX9_set 29 = .ok (.lload_n 3, 1) := by decide +kernel
theorem dX9_set_30 : decode cX9_set 30 = .ok (.invokestatic 125, 3) := by decide +kernel
theorem dX9_set_33 : decode cX9_set 33 = .ok (.ifCond .ne 7, 3) := by decide +kernel
theorem dX9_set_36 : decode cX9_set 36 = .ok (.sipush (-1002), 3) := by decide +kernel
theorem dX9_set_39 : decode cX9_set 39 = .ok (.ireturn, 1) := by decide +kernel
theorem dX9_set_40 : decode cX9_set 40 = .ok (.aload_n 0, 1) := by decide +kernel
theorem dX9_set_41 : decode cX9_set 41 = .ok (.getfield 7, 3) := by decide +kernel
theorem dX9_set_44 : decode cX9_set 44 = .ok (.iload_n 1, 1) := by decide +kernel
theorem dX9_set_45 : decode cX9_set 45 = .ok (.iload_n 2, 1) := by decide +kernel
theorem dX9_set_46 : decode cX9_set 46 = .ok (.iastore, 1) := by decide +kernel
theorem dX9_set_47 : decode cX9_set 47 = .ok (.aload_n 0, 1) := by decide +kernel
theorem dX9_set_48 : decode cX9_set 48 = .ok (.getfield 13, 3) := by decide +kernel
theorem dX9_set_51 : decode cX9_set 51 = .ok (.iload_n 1, 1) := by decide +kernel
theorem dX9_set_52 : decode cX9_set 52 = .ok (.iload_n 2, 1) := by decide +kernel
theorem dX9_set_53 : decode cX9_set 53 = .ok (.ifCond .eq 8, 3) := by decide +kernel
theorem dX9_set_56 : decode cX9_set 56 = .ok (.iload_n 2, 1) := by decide +kernel
theorem dX9_set_57 : decode cX9_set 57 = .ok (.iconst 2, 1) := by decide +kernel
theorem dX9_set_58 : decode cX9_set 58 = .ok (.if_icmp .ne 9, 3) := by decide +kernel
theorem dX9_set_61 : decode cX9_set 61 = .ok (.lload_n 3, 1) := by decide +kernel
theorem dX9_set_62 : decode cX9_set 62 = .ok (.l2i, 1) := by decide +kernel
theorem dX9_set_63 : decode cX9_set 63 = .ok (.i2l, 1) := by decide +kernel
theorem dX9_set_64 : decode cX9_set 64 = .ok (.goto 4, 3) := by decide +kernel
theorem dX9_set_67 : decode cX9_set 67 = .ok (.lload_n 3, 1) := by decide +kernel
theorem dX9_set_68 : decode cX9_set 68 = .ok (.lastore, 1) := by decide +kernel
theorem dX9_set_69 : decode cX9_set 69 = .ok (.iconst 1, 1) := by decide +kernel
theorem dX9_set_70 : decode cX9_set 70 = .ok (.ireturn, 1) := by decide +kernel
set_option maxRecDepth 20000 in
theorem ggX9_bits_X9_isMeter : GoodIn wsX9_bits wsX9_isMeter := goodIn_r _ [7, 8, 9, 10, 6, 11] (by decide +kernel) (by decide +kernel)
set_option maxRecDepth 20000 in
theorem gX9_bits_X9_isMeter : GoodIn wsX9_bits (va_wsS RX9 119 yX9_isMeter wsX9_isMeter) := goodIn_app (goodIn_of _ (by decide +kernel)) ggX9_bits_X9_isMeter
theorem dX9_bits_0 : decode cX9_bits 0 = .ok (.aload_n 0, 1) := by decide +kernel
theorem dX9_bits_1 : decode cX9_bits 1 = .ok (.iconst 0, 1) := by decide +kernel
theorem dX9_bits_2 : decode cX9_bits 2 = .ok (.putfield 61, 3) := by decide +kernel
theorem dX9_bits_5 : decode cX9_bits 5 = .ok (.iload_n 1, 1) := by decide +kernel
theorem dX9_bits_6 : decode cX9_bits 6 = .ok (.invokestatic 119, 3) := by decide +kernel
theorem dX9_bits_9 : decode cX9_bits 9 = .ok (.ifCond .eq 12, 3) := by decide +kernel
theorem dX9_bits_12 : decode cX9_bits 12 = .ok (.aload_n 0, 1) := by decide +kernel
theorem dX9_bits_13 : decode cX9_bits 13 = .ok (.getfield 13, 3) := by decide +kernel
theorem dX9_bits_16 : decode cX9_bits 16 = .ok (.iload_n 1, 1) := by decide +kernel
theorem dX9_bits_17 : decode cX9_bits 17 = .ok (.laload, 1) := by decide +kernel
theorem dX9_bits_18 : decode cX9_bits 18 = .ok (.goto 6, 3) := by decide +kernel
theorem dX9_bits_21 : decode cX9_bits 21 = .ok (.ldc2_w 129, 3) := by decide +kernel
theorem dX9_bits_24 : decode cX9_bits 24 = .ok (.lreturn, 1) := by decide +kernel
set_option maxRecDepth 20000 in
theorem ggX9_lane_X9_isMeter : GoodIn wsX9_lane wsX9_isMeter := goodIn_r _ [6, 7, 8, 9, 5, 10] (by decide +kernel) (by decide +kernel)
set_option maxRecDepth 20000 in
theorem gX9_lane_X9_isMeter : GoodIn wsX9_lane (va_wsS RX9 119 yX9_isMeter wsX9_isMeter) := goodIn_app (goodIn_of _ (by decide +kernel)) ggX9_lane_X9_isMeter
theorem dX9_lane_0 : decode cX9_lane 0 = .ok (.aload_n 0, 1) := by decide +kernel
theorem dX9_lane_1 : decode cX9_lane 1 = .ok (.iconst 0, 1) := by decide +kernel
theorem dX9_lane_2 : decode cX9_lane 2 = .ok (.putfield 61, 3) := by decide +kernel
theorem dX9_lane_5 : decode cX9_lane 5 = .ok (.iload_n 1, 1) := by decide +kernel
theorem dX9_lane_6 : decode cX9_lane 6 = .ok (.invokestatic 119, 3) := by decide +kernel
theorem dX9_lane_9 : decode cX9_lane 9 = .ok (.ifCond .eq 12, 3) := by decide +kernel
theorem dX9_lane_12 : decode cX9_lane 12 = .ok (.aload_n 0, 1) := by decide +kernel
theorem dX9_lane_13 : decode cX9_lane 13 = .ok (.getfield 7, 3) := by decide +kernel
theorem dX9_lane_16 : decode cX9_lane 16 = .ok (.iload_n 1, 1) := by decide +kernel
theorem dX9_lane_17 : decode cX9_lane 17 = .ok (.iaload, 1) := by decide +kernel
theorem dX9_lane_18 : decode cX9_lane 18 = .ok (.goto 6, 3) := by decide +kernel
theorem dX9_lane_21 : decode cX9_lane 21 = .ok (.sipush (-1001), 3) := by decide +kernel
theorem dX9_lane_24 : decode cX9_lane 24 = .ok (.ireturn, 1) := by decide +kernel
set_option maxRecDepth 20000 in
theorem ggX9_turn_X9_isMeter : GoodIn wsX9_turn wsX9_isMeter := goodIn_r _ [8, 9, 10, 11, 7, 12] (by decide +kernel) (by decide +kernel)
set_option maxRecDepth 20000 in
theorem gX9_turn_X9_isMeter : GoodIn wsX9_turn (va_wsS RX9 119 yX9_isMeter wsX9_isMeter) := goodIn_app (goodIn_of _ (by decide +kernel)) ggX9_turn_X9_isMeter
set_option maxRecDepth 20000 in
theorem ggX9_turn_X9_in : GoodIn wsX9_turn wsX9_in := goodIn_r _ [12] (by decide +kernel) (by decide +kernel)
set_option maxRecDepth 20000 in
theorem gX9_turn_X9_in : GoodIn wsX9_turn (va_wsS RX9 115 yX9_in wsX9_in) := goodIn_app (goodIn_of _ (by decide +kernel)) ggX9_turn_X9_in
set_option maxRecDepth 20000 in
theorem ggX9_turn_X9_turned : GoodIn wsX9_turn wsX9_turned := goodIn_r _ [15, 16, 17, 18, 19, 20, 21, 22, 23, 24, 25, 26, 27, 28, 29, 30, 31, 32, 33, 34, 35, 36, 37, 38, 39, 40, 41, 7, 42, 43, 44, 45, 46, 47, 48, 49, 50, 51] (by decide +kernel) (by decide +kernel)
set_option maxRecDepth 20000 in
theorem gX9_turn_X9_turned : GoodIn wsX9_turn (va_wsS RX9 109 yX9_turned wsX9_turned) := goodIn_app (goodIn_of _ (by decide +kernel)) ggX9_turn_X9_turned
theorem dX9_turn_0 : decode cX9_turn 0 = .ok (.aload_n 0, 1) := by decide +kernel
theorem dX9_turn_1 : decode cX9_turn 1 = .ok (.iconst 0, 1) := by decide +kernel
theorem dX9_turn_2 : decode cX9_turn 2 = .ok (.putfield 61, 3) := by decide +kernel
theorem dX9_turn_5 : decode cX9_turn 5 = .ok (.iload_n 1, 1) := by decide +kernel
theorem dX9_turn_6 : decode cX9_turn 6 = .ok (.invokestatic 119, 3) := by decide +kernel
theorem dX9_turn_9 : decode cX9_turn 9 = .ok (.ifCond .ne 7, 3) := by decide +kernel
theorem dX9_turn_12 : decode cX9_turn 12 = .ok (.sipush (-1001), 3) := by decide +kernel
theorem dX9_turn_15 : decode cX9_turn 15 = .ok (.ireturn, 1) := by decide +kernel
theorem dX9_turn_16 : decode cX9_turn 16 = .ok (.iload_n 2, 1) := by decide +kernel
theorem dX9_turn_17 : decode cX9_turn 17 = .ok (.i2l, 1) := by decide +kernel
theorem dX9_turn_18 : decode cX9_turn 18 = .ok (.lconst 0, 1) := by decide +kernel
theorem dX9_turn_19 : decode cX9_turn 19 = .ok (.ldc2_w 123, 3) := by decide +kernel
theorem dX9_turn_22 : decode cX9_turn 22 = .ok (.invokestatic 115, 3) := by decide +kernel
theorem dX9_turn_25 : decode cX9_turn 25 = .ok (.ifCond .ne 7, 3) := by decide +kernel
theorem dX9_turn_28 : decode cX9_turn 28 = .ok (.sipush (-1002), 3) := by decide +kernel
theorem dX9_turn_31 : decode cX9_turn 31 = .ok (.ireturn, 1) := by decide +kernel
theorem dX9_turn_32 : decode cX9_turn 32 = .ok (.aload_n 0, 1) := by decide +kernel
theorem dX9_turn_33 : decode cX9_turn 33 = .ok (.getfield 13, 3) := by decide +kernel
theorem dX9_turn_36 : decode cX9_turn 36 = .ok (.iload_n 1, 1) := by decide +kernel
theorem dX9_turn_37 : decode cX9_turn 37 = .ok (.aload_n 0, 1) := by decide +kernel
theorem dX9_turn_38 : decode cX9_turn 38 = .ok (.getfield 7, 3) := by decide +kernel
theorem dX9_turn_41 : decode cX9_turn 41 = .ok (.iload_n 1, 1) := by decide +kernel
theorem dX9_turn_42 : decode cX9_turn 42 = .ok (.iaload, 1) := by decide +kernel
theorem dX9_turn_43 : decode cX9_turn 43 = .ok (.aload_n 0, 1) := by decide +kernel
theorem dX9_turn_44 : decode cX9_turn 44 = .ok (.getfield 13, 3) := by decide +kernel
theorem dX9_turn_47 : decode cX9_turn 47 = .ok (.iload_n 1, 1) := by decide +kernel
theorem dX9_turn_48 : decode cX9_turn 48 = .ok (.laload, 1) := by decide +kernel
theorem dX9_turn_49 : decode cX9_turn 49 = .ok (.iload_n 2, 1) := by decide +kernel
theorem dX9_turn_50 : decode cX9_turn 50 = .ok (.invokestatic 109, 3) := by decide +kernel
theorem dX9_turn_53 : decode cX9_turn 53 = .ok (.lastore, 1) := by decide +kernel
theorem dX9_turn_54 : decode cX9_turn 54 = .ok (.aload_n 0, 1) := by decide +kernel
theorem dX9_turn_55 : decode cX9_turn 55 = .ok (.getfield 7, 3) := by decide +kernel
theorem dX9_turn_58 : decode cX9_turn 58 = .ok (.iload_n 1, 1) := by decide +kernel
theorem dX9_turn_59 : decode cX9_turn 59 = .ok (.iload_n 2, 1) := by decide +kernel
theorem dX9_turn_60 : decode cX9_turn 60 = .ok (.iastore, 1) := by decide +kernel
theorem dX9_turn_61 : decode cX9_turn 61 = .ok (.iconst 1, 1) := by decide +kernel
theorem dX9_turn_62 : decode cX9_turn 62 = .ok (.ireturn, 1) := by decide +kernel
theorem dX9_reckonLongs_0 : decode cX9_reckonLongs 0 = .ok (.iload_n 1, 1) := by decide +kernel
theorem dX9_reckonLongs_1 : decode cX9_reckonLongs 1 = .ok (.iconst 2, 1) := by decide +kernel
theorem dX9_reckonLongs_2 : decode cX9_reckonLongs 2 = .ok (.if_icmp .le 16, 3) := by decide +kernel
theorem dX9_reckonLongs_5 : decode cX9_reckonLongs 5 = .ok (.lload 4, 2) := by decide +kernel
theorem dX9_reckonLongs_7 : decode cX9_reckonLongs 7 = .ok (.lconst 0, 1) := by decide +kernel
theorem dX9_reckonLongs_8 : decode cX9_reckonLongs 8 = .ok (.lcmp, 1) := by decide +kernel
theorem dX9_reckonLongs_9 : decode cX9_reckonLongs 9 = .ok (.ifCond .ne 9, 3) := by decide +kernel
theorem dX9_reckonLongs_12 : decode cX9_reckonLongs 12 = .ok (.aload_n 0, 1) := by decide +kernel
theorem dX9_reckonLongs_13 : decode cX9_reckonLongs 13 = .ok (.iconst 4, 1) := by decide +kernel
theorem dX9_reckonLongs_14 : decode cX9_reckonLongs 14 = .ok (.putfield 65, 3) := by decide +kernel
theorem dX9_reckonLongs_17 : decode cX9_reckonLongs 17 = .ok (.return_, 1) := by decide +kernel
theorem dX9_reckonLongs_18 : decode cX9_reckonLongs 18 = .ok (.aload_n 0, 1) := by decide +kernel
theorem dX9_reckonLongs_19 : decode cX9_reckonLongs 19 = .ok (.iload_n 1, 1) := by decide +kernel
theorem dX9_reckonLongs_20 : decode cX9_reckonLongs 20 = .ok (.ifCond .ne 10, 3) := by decide +kernel
theorem dX9_reckonLongs_23 : decode cX9_reckonLongs 23 = .ok (.lload_n 2, 1) := by decide +kernel
theorem dX9_reckonLongs_24 : decode cX9_reckonLongs 24 = .ok (.lload 4, 2) := by decide +kernel
theorem dX9_reckonLongs_26 : decode cX9_reckonLongs 26 = .ok (.ladd, 1) := by decide +kernel
theorem dX9_reckonLongs_27 : decode cX9_reckonLongs 27 = .ok (.goto 43, 3) := by decide +kernel
theorem dX9_reckonLongs_30 : decode cX9_reckonLongs 30 = .ok (.iload_n 1, 1) := by decide +kernel
theorem dX9_reckonLongs_31 : decode cX9_reckonLongs 31 = .ok (.iconst 1, 1) := by decide +kernel
theorem dX9_reckonLongs_32 : decode cX9_reckonLongs 32 = .ok (.if_icmp .ne 10, 3) := by decide +kernel
theorem dX9_reckonLongs_35 : decode cX9_reckonLongs 35 = .ok (.lload_n 2, 1) := by decide +kernel
theorem dX9_reckonLongs_36 : decode cX9_reckonLongs 36 = .ok (.lload 4, 2) := by decide +kernel
theorem dX9_reckonLongs_38 : decode cX9_reckonLongs 38 = .ok (.lsub, 1) := by decide +kernel
theorem dX9_reckonLongs_39 : decode cX9_reckonLongs 39 = .ok (.goto 31, 3) := by decide +kernel
theorem dX9_reckonLongs_42 : decode cX9_reckonLongs 42 = .ok (.iload_n 1, 1) := by decide +kernel
theorem dX9_reckonLongs_43 : decode cX9_reckonLongs 43 = .ok (.iconst 2, 1) := by decide +kernel
theorem dX9_reckonLongs_44 : decode cX9_reckonLongs 44 = .ok (.if_icmp .ne 10, 3) := by decide +kernel
theorem dX9_reckonLongs_47 : decode cX9_reckonLongs 47 = .ok (.lload_n 2, 1) := by decide +kernel
theorem dX9_reckonLongs_48 : decode cX9_reckonLongs 48 = .ok (.lload 4, 2) := by decide +kernel
theorem dX9_reckonLongs_50 : decode cX9_reckonLongs 50 = .ok (.lmul, 1) := by decide +kernel
theorem dX9_reckonLongs_51 : decode cX9_reckonLongs 51 = .ok (.goto 19, 3) := by decide +kernel
theorem dX9_reckonLongs_54 : decode cX9_reckonLongs 54 = .ok (.iload_n 1, 1) := by decide +kernel
theorem dX9_reckonLongs_55 : decode cX9_reckonLongs 55 = .ok (.iconst 3, 1) := by decide +kernel
theorem dX9_reckonLongs_56 : decode cX9_reckonLongs 56 = .ok (.if_icmp .ne 10, 3) := by decide +kernel
theorem dX9_reckonLongs_59 : decode cX9_reckonLongs 59 = .ok (.lload_n 2, 1) := by decide +kernel
theorem dX9_reckonLongs_60 : decode cX9_reckonLongs 60 = .ok (.lload 4, 2) := by decide +kernel
theorem dX9_reckonLongs_62 : decode cX9_reckonLongs 62 = .ok (.ldiv, 1) := by decide +kernel
theorem dX9_reckonLongs_63 : decode cX9_reckonLongs 63 = .ok (.goto 7, 3) := by decide +kernel
theorem dX9_reckonLongs_66 : decode cX9_reckonLongs 66 = .ok (.lload_n 2, 1) := by decide +kernel
theorem dX9_reckonLongs_67 : decode cX9_reckonLongs 67 = .ok (.lload 4, 2) := by decide +kernel
theorem dX9_reckonLongs_69 : decode cX9_reckonLongs 69 = .ok (.lrem, 1) := by decide +kernel
theorem dX9_reckonLongs_70 : decode cX9_reckonLongs 70 = .ok (.putfield 131, 3) := by decide +kernel
theorem dX9_reckonLongs_73 : decode cX9_reckonLongs 73 = .ok (.return_, 1) := by decide +kernel
set_option maxRecDepth 20000 in
theorem ggX9_reckonFloats_X9_isEndlessFloat : GoodIn wsX9_reckonFloats wsX9_isEndlessFloat := goodIn_r _ [6, 7, 8] (by decide +kernel) (by decide +kernel)
set_option maxRecDepth 20000 in
theorem gX9_reckonFloats_X9_isEndlessFloat : GoodIn wsX9_reckonFloats (va_wsS RX9 135 yX9_isEndlessFloat wsX9_isEndlessFloat) := goodIn_app (goodIn_of _ (by decide +kernel)) ggX9_reckonFloats_X9_isEndlessFloat
set_option maxRecDepth 20000 in
theorem ggX9_reckonFloats_Jxf58ca_floatToIntBits_5c35a : GoodIn wsX9_reckonFloats wsJxf58ca_floatToIntBits_5c35a := goodIn_r _ [12, 13, 14, 15, 16, 17, 18, 19, 11, 20] (by decide +kernel) (by decide +kernel)
set_option maxRecDepth 20000 in
theorem gX9_reckonFloats_Jxf58ca_floatToIntBits_5c35a : GoodIn wsX9_reckonFloats (va_wsS RX9 94 yJxf58ca_floatToIntBits_5c35a wsJxf58ca_floatToIntBits_5c35a) := goodIn_app (goodIn_of _ (by decide +kernel)) ggX9_reckonFloats_Jxf58ca_floatToIntBits_5c35a
theorem dX9_reckonFloats_0 : decode cX9_reckonFloats 0 = .ok (.fload_n 2, 1) := by decide +kernel
theorem dX9_reckonFloats_1 : decode cX9_reckonFloats 1 = .ok (.invokestatic 135, 3) := by decide +kernel
theorem dX9_reckonFloats_4 : decode cX9_reckonFloats 4 = .ok (.istore 4, 2) := by decide +kernel
theorem dX9_reckonFloats_6 : decode cX9_reckonFloats 6 = .ok (.fload_n 3, 1) := by decide +kernel
theorem dX9_reckonFloats_7 : decode cX9_reckonFloats 7 = .ok (.invokestatic 135, 3) := by decide +kernel
theorem dX9_reckonFloats_10 : decode cX9_reckonFloats 10 = .ok (.istore 5, 2) := by decide +kernel
theorem dX9_reckonFloats_12 : decode cX9_reckonFloats 12 = .ok (.iload_n 1, 1) := by decide +kernel
theorem dX9_reckonFloats_13 : decode cX9_reckonFloats 13 = .ok (.ifCond .ne 27, 3) := by decide +kernel
theorem dX9_reckonFloats_16 : decode cX9_reckonFloats 16 = .ok (.iload 4, 2) := by decide +kernel
theorem dX9_reckonFloats_18 : decode cX9_reckonFloats 18 = .ok (.ifCond .eq 18, 3) := by decide +kernel
theorem dX9_reckonFloats_21 : decode cX9_reckonFloats 21 = .ok (.iload 5, 2) := by decide +kernel
theorem dX9_reckonFloats_23 : decode cX9_reckonFloats 23 = .ok (.ifCond .eq 13, 3) := by decide +kernel
theorem dX9_reckonFloats_26 : decode cX9_reckonFloats 26 = .ok (.fload_n 2, 1) := by decide +kernel
theorem dX9_reckonFloats_27 : decode cX9_reckonFloats 27 = .ok (.fload_n 3, 1) := by decide +kernel
theorem dX9_reckonFloats_28 : decode cX9_reckonFloats 28 = .ok (.fcmp .l, 1) := by decide +kernel
theorem dX9_reckonFloats_29 : decode cX9_reckonFloats 29 = .ok (.ifCond .eq 7, 3) := by decide +kernel
theorem dX9_reckonFloats_32 : decode cX9_reckonFloats 32 = .ok (.iconst 1, 1) := by decide +kernel
theorem dX9_reckonFloats_33 : decode cX9_reckonFloats 33 = .ok (.goto 122, 3) := by decide +kernel
theorem dX9_reckonFloats_36 : decode cX9_reckonFloats 36 = .ok (.iconst 0, 1) := by decide +kernel
theorem dX9_reckonFloats_37 : decode cX9_reckonFloats 37 = .ok (.goto 118, 3) := by decide +kernel
theorem dX9_reckonFloats_40 : decode cX9_reckonFloats 40 = .ok (.iload_n 1, 1) := by decide +kernel
theorem dX9_reckonFloats_41 : decode cX9_reckonFloats 41 = .ok (.iconst 1, 1) := by decide +kernel
theorem dX9_reckonFloats_42 : decode cX9_reckonFloats 42 = .ok (.if_icmp .ne 27, 3) := by decide +kernel
theorem dX9_reckonFloats_45 : decode cX9_reckonFloats 45 = .ok (.iload 4, 2) := by decide +kernel
theorem dX9_reckonFloats_47 : decode cX9_reckonFloats 47 = .ok (.ifCond .eq 18, 3) := by decide +kernel
theorem dX9_reckonFloats_50 : decode cX9_reckonFloats 50 = .ok (.iload 5, 2) := by decide +kernel
theorem dX9_reckonFloats_52 : decode cX9_reckonFloats 52 = .ok (.ifCond .eq 13, 3) := by decide +kernel
theorem dX9_reckonFloats_55 : decode cX9_reckonFloats 55 = .ok (.fload_n 2, 1) := by decide +kernel
theorem dX9_reckonFloats_56 : decode cX9_reckonFloats 56 = .ok (.fload_n 3, 1) := by decide +kernel
theorem dX9_reckonFloats_57 : decode cX9_reckonFloats 57 = .ok (.fcmp .l, 1) := by decide +kernel
theorem dX9_reckonFloats_58 : decode cX9_reckonFloats 58 = .ok (.ifCond .ne 7, 3) := by decide +kernel
theorem dX9_reckonFloats_61 : decode cX9_reckonFloats 61 = .ok (.iconst 1, 1) := by decide +kernel
theorem dX9_reckonFloats_62 : decode cX9_reckonFloats 62 = .ok (.goto 93, 3) := by decide +kernel
theorem dX9_reckonFloats_65 : decode cX9_reckonFloats 65 = .ok (.iconst 0, 1) := by decide +kernel
theorem dX9_reckonFloats_66 : decode cX9_reckonFloats 66 = .ok (.goto 89, 3) := by decide +kernel
theorem dX9_reckonFloats_69 : decode cX9_reckonFloats 69 = .ok (.iload_n 1, 1) := by decide +kernel
theorem dX9_reckonFloats_70 : decode cX9_reckonFloats 70 = .ok (.iconst 2, 1) := by decide +kernel
theorem dX9_reckonFloats_71 : decode cX9_reckonFloats 71 = .ok (.if_icmp .ne 33, 3) := by decide +kernel
theorem dX9_reckonFloats_74 : decode cX9_reckonFloats 74 = .ok (.iload 4, 2) := by decide +kernel
theorem dX9_reckonFloats_76 : decode cX9_reckonFloats 76 = .ok (.ifCond .eq 9, 3) := by decide +kernel
theorem dX9_reckonFloats_79 : decode cX9_reckonFloats 79 = .ok (.fload_n 3, 1) := by decide +kernel
theorem dX9_reckonFloats_80 : decode cX9_reckonFloats 80 = .ok (.fconst 0, 1) := by decide +kernel
theorem dX9_reckonFloats_81 : decode cX9_reckonFloats 81 = .ok (.fcmp .l, 1) := by decide +kernel
theorem dX9_reckonFloats_82 : decode cX9_reckonFloats 82 = .ok (.ifCond .eq 14, 3) := by decide +kernel
theorem dX9_reckonFloats_85 : decode cX9_reckonFloats 85 = .ok (.iload 5, 2) := by decide +kernel
theorem dX9_reckonFloats_87 : decode cX9_reckonFloats 87 = .ok (.ifCond .eq 13, 3) := by decide +kernel
theorem dX9_reckonFloats_90 : decode cX9_reckonFloats 90 = .ok (.fload_n 2, 1) := by decide +kernel
theorem dX9_reckonFloats_91 : decode cX9_reckonFloats 91 = .ok (.fconst 0, 1) := by decide +kernel
theorem dX9_reckonFloats_92 : decode cX9_reckonFloats 92 = .ok (.fcmp .l, 1) := by decide +kernel
theorem dX9_reckonFloats_93 : decode cX9_reckonFloats 93 = .ok (.ifCond .ne 7, 3) := by decide +kernel
theorem dX9_reckonFloats_96 : decode cX9_reckonFloats 96 = .ok (.iconst 1, 1) := by decide +kernel
theorem dX9_reckonFloats_97 : decode cX9_reckonFloats 97 = .ok (.goto 58, 3) := by decide +kernel
theorem dX9_reckonFloats_100 : decode cX9_reckonFloats 100 = .ok (.iconst 0, 1) := by decide +kernel
theorem dX9_reckonFloats_101 : decode cX9_reckonFloats 101 = .ok (.goto 54, 3) := by decide +kernel
theorem dX9_reckonFloats_104 : decode cX9_reckonFloats 104 = .ok (.iload_n 1, 1) := by decide +kernel
theorem dX9_reckonFloats_105 : decode cX9_reckonFloats 105 = .ok (.iconst 3, 1) := by decide +kernel
theorem dX9_reckonFloats_106 : decode cX9_reckonFloats 106 = .ok (.if_icmp .ne 33, 3) := by decide +kernel
theorem dX9_reckonFloats_109 : decode cX9_reckonFloats 109 = .ok (.iload 4, 2) := by decide +kernel
theorem dX9_reckonFloats_111 : decode cX9_reckonFloats 111 = .ok (.ifCond .eq 8, 3) := by decide +kernel
theorem dX9_reckonFloats_114 : decode cX9_reckonFloats 114 = .ok (.iload 5, 2) := by decide +kernel
theorem dX9_reckonFloats_116 : decode cX9_reckonFloats 116 = .ok (.ifCond .ne 15, 3) := by decide +kernel
theorem dX9_reckonFloats_119 : decode cX9_reckonFloats 119 = .ok (.fload_n 2, 1) := by decide +kernel
theorem dX9_reckonFloats_120 : decode cX9_reckonFloats 120 = .ok (.fconst 0, 1) := by decide +kernel
theorem dX9_reckonFloats_121 : decode cX9_reckonFloats 121 = .ok (.fcmp .l, 1) := by decide +kernel
theorem dX9_reckonFloats_122 : decode cX9_reckonFloats 122 = .ok (.ifCond .ne 13, 3) := by decide +kernel
theorem dX9_reckonFloats_125 : decode cX9_reckonFloats 125 = .ok (.fload_n 3, 1) := by decide +kernel
theorem dX9_reckonFloats_126 : decode cX9_reckonFloats 126 = .ok (.fconst 0, 1) := by decide +kernel
theorem dX9_reckonFloats_127 : decode cX9_reckonFloats 127 = .ok (.fcmp .l, 1) := by decide +kernel
theorem dX9_reckonFloats_128 : decode cX9_reckonFloats 128 = .ok (.ifCond .ne 7, 3) := by decide +kernel
theorem dX9_reckonFloats_131 : decode cX9_reckonFloats 131 = .ok (.iconst 1, 1) := by decide +kernel
theorem dX9_reckonFloats_132 : decode cX9_reckonFloats 132 = .ok (.goto 23, 3) := by decide +kernel
theorem dX9_reckonFloats_135 : decode cX9_reckonFloats 135 = .ok (.iconst 0, 1) := by decide +kernel
theorem dX9_reckonFloats_136 : decode cX9_reckonFloats 136 = .ok (.goto 19, 3) := by decide +kernel
theorem dX9_reckonFloats_139 : decode cX9_reckonFloats 139 = .ok (.iload 4, 2) := by decide +kernel
theorem dX9_reckonFloats_141 : decode cX9_reckonFloats 141 = .ok (.ifCond .ne 9, 3) := by decide +kernel
theorem dX9_reckonFloats_144 : decode cX9_reckonFloats 144 = .ok (.fload_n 3, 1) := by decide +kernel
theorem dX9_reckonFloats_145 : decode cX9_reckonFloats 145 = .ok (.fconst 0, 1) := by decide +kernel
theorem dX9_reckonFloats_146 : decode cX9_reckonFloats 146 = .ok (.fcmp .l, 1) := by decide +kernel
theorem dX9_reckonFloats_147 : decode cX9_reckonFloats 147 = .ok (.ifCond .ne 7, 3) := by decide +kernel
theorem dX9_reckonFloats_150 : decode cX9_reckonFloats 150 = .ok (.iconst 1, 1) := by decide +kernel
theorem dX9_reckonFloats_151 : decode cX9_reckonFloats 151 = .ok (.goto 4, 3) := by decide +kernel
theorem dX9_reckonFloats_154 : decode cX9_reckonFloats 154 = .ok (.iconst 0, 1) := by decide +kernel
theorem dX9_reckonFloats_155 : decode cX9_reckonFloats 155 = .ok (.istore 6, 2) := by decide +kernel
theorem dX9_reckonFloats_157 : decode cX9_reckonFloats 157 = .ok (.iload 6, 2) := by decide +kernel
theorem dX9_reckonFloats_159 : decode cX9_reckonFloats 159 = .ok (.ifCond .eq 9, 3) := by decide +kernel
theorem dX9_reckonFloats_162 : decode cX9_reckonFloats 162 = .ok (.aload_n 0, 1) := by decide +kernel
theorem dX9_reckonFloats_163 : decode cX9_reckonFloats 163 = .ok (.iconst 5, 1) := by decide +kernel
theorem dX9_reckonFloats_164 : decode cX9_reckonFloats 164 = .ok (.putfield 65, 3) := by decide +kernel
theorem dX9_reckonFloats_167 : decode cX9_reckonFloats 167 = .ok (.return_, 1) := by decide +kernel
theorem dX9_reckonFloats_168 : decode cX9_reckonFloats 168 = .ok (.aload_n 0, 1) := by decide +kernel
theorem dX9_reckonFloats_169 : decode cX9_reckonFloats 169 = .ok (.iload_n 1, 1) := by decide +kernel
theorem dX9_reckonFloats_170 : decode cX9_reckonFloats 170 = .ok (.ifCond .ne 9, 3) := by decide +kernel
theorem dX9_reckonFloats_173 : decode cX9_reckonFloats 173 = .ok (.fload_n 2, 1) := by decide +kernel
theorem dX9_reckonFloats_174 : decode cX9_reckonFloats 174 = .ok (.fload_n 3, 1) := by decide +kernel
theorem dX9_reckonFloats_175 : decode cX9_reckonFloats 175 = .ok (.fadd, 1) := by decide +kernel
theorem dX9_reckonFloats_176 : decode cX9_reckonFloats 176 = .ok (.goto 48, 3) := by decide +kernel
theorem dX9_reckonFloats_179 : decode cX9_reckonFloats 179 = .ok (.iload_n 1, 1) := by decide +kernel
theorem dX9_reckonFloats_180 : decode cX9_reckonFloats 180 = .ok (.iconst 1, 1) := by decide +kernel
theorem dX9_reckonFloats_181 : decode cX9_reckonFloats 181 = .ok (.if_icmp .ne 9, 3) := by decide +kernel
theorem dX9_reckonFloats_184 : decode cX9_reckonFloats 184 = .ok (.fload_n 2, 1) := by decide +kernel
theorem dX9_reckonFloats_185 : decode cX9_reckonFloats 185 = .ok (.fload_n 3, 1) := by decide +kernel
theorem dX9_reckonFloats_186 : decode cX9_reckonFloats 186 = .ok (.fsub, 1) := by decide +kernel
theorem dX9_reckonFloats_187 : decode cX9_reckonFloats 187 = .ok (.goto 37, 3) := by decide +kernel
theorem dX9_reckonFloats_190 : decode cX9_reckonFloats 190 = .ok (.iload_n 1, 1) := by decide +kernel
theorem dX9_reckonFloats_191 : decode cX9_reckonFloats 191 = .ok (.iconst 2, 1) := by decide +kernel
theorem dX9_reckonFloats_192 : decode cX9_reckonFloats 192 = .ok (.if_icmp .ne 9, 3) := by decide +kernel
theorem dX9_reckonFloats_195 : decode cX9_reckonFloats 195 = .ok (.fload_n 2, 1) := by decide +kernel
theorem dX9_reckonFloats_196 : decode cX9_reckonFloats 196 = .ok (.fload_n 3, 1) := by decide +kernel
theorem dX9_reckonFloats_197 : decode cX9_reckonFloats 197 = .ok (.fmul, 1) := by decide +kernel
theorem dX9_reckonFloats_198 : decode cX9_reckonFloats 198 = .ok (.goto 26, 3) := by decide +kernel
theorem dX9_reckonFloats_201 : decode cX9_reckonFloats 201 = .ok (.iload_n 1, 1) := by decide +kernel
theorem dX9_reckonFloats_202 : decode cX9_reckonFloats 202 = .ok (.iconst 3, 1) := by decide +kernel
theorem dX9_reckonFloats_203 : decode cX9_reckonFloats 203 = .ok (.if_icmp .ne 9, 3) := by decide +kernel
theorem dX9_reckonFloats_206 : decode cX9_reckonFloats 206 = .ok (.fload_n 2, 1) := by decide +kernel
theorem dX9_reckonFloats_207 : decode cX9_reckonFloats 207 = .ok (.fload_n 3, 1) := by decide +kernel
theorem dX9_reckonFloats_208 : decode cX9_reckonFloats 208 = .ok (.fdiv, 1) := by decide +kernel
theorem dX9_reckonFloats_209 : decode cX9_reckonFloats 209 = .ok (.goto 15, 3) := by decide +kernel
theorem dX9_reckonFloats_212 : decode cX9_reckonFloats 212 = .ok (.iload 5, 2) := by decide +kernel
theorem dX9_reckonFloats_214 : decode cX9_reckonFloats 214 = .ok (.ifCond .eq 7, 3) := by decide +kernel
theorem dX9_reckonFloats_217 : decode cX9_reckonFloats 217 = .ok (.fload_n 2, 1) := by decide +kernel
theorem dX9_reckonFloats_218 : decode cX9_reckonFloats 218 = .ok (.goto 6, 3) := by decide +kernel
theorem dX9_reckonFloats_221 : decode cX9_reckonFloats 221 = .ok (.fload_n 2, 1) := by decide +kernel
theorem dX9_reckonFloats_222 : decode cX9_reckonFloats 222 = .ok (.fload_n 3, 1) := by decide +kernel
theorem dX9_reckonFloats_223 : decode cX9_reckonFloats 223 = .ok (.frem, 1) := by decide +kernel
theorem dX9_reckonFloats_224 : decode cX9_reckonFloats 224 = .ok (.invokestatic 94, 3) := by decide +kernel
theorem dX9_reckonFloats_227 : decode cX9_reckonFloats 227 = .ok (.i2l, 1) := by decide +kernel
theorem dX9_reckonFloats_228 : decode cX9_reckonFloats 228 = .ok (.putfield 131, 3) := by decide +kernel
theorem dX9_reckonFloats_231 : decode cX9_reckonFloats 231 = .ok (.return_, 1) := by decide +kernel
set_option maxRecDepth 20000 in
theorem ggX9_reckonDoubles_X9_isEndless : GoodIn wsX9_reckonDoubles wsX9_isEndless := goodIn_r _ [6, 7, 8] (by decide +kernel) (by decide +kernel)
set_option maxRecDepth 20000 in
theorem gX9_reckonDoubles_X9_isEndless : GoodIn wsX9_reckonDoubles (va_wsS RX9 139 yX9_isEndless wsX9_isEndless) := goodIn_app (goodIn_of _ (by decide +kernel)) ggX9_reckonDoubles_X9_isEndless
set_option maxRecDepth 20000 in
theorem ggX9_reckonDoubles_Jxe99ae_doubleToLongBits_ccdee : GoodIn wsX9_reckonDoubles wsJxe99ae_doubleToLongBits_ccdee := goodIn_r _ [12, 13, 14, 15, 16, 17, 18, 19, 11, 20] (by decide +kernel) (by decide +kernel)
set_option maxRecDepth 20000 in
theorem gX9_reckonDoubles_Jxe99ae_doubleToLongBits_ccdee : GoodIn wsX9_reckonDoubles (va_wsS RX9 98 yJxe99ae_doubleToLongBits_ccdee wsJxe99ae_doubleToLongBits_ccdee) := goodIn_app (goodIn_of _ (by decide +kernel)) ggX9_reckonDoubles_Jxe99ae_doubleToLongBits_ccdee
theorem dX9_reckonDoubles_0 : decode cX9_reckonDoubles 0 = .ok (.dload_n 2, 1) := by decide +kernel
theorem dX9_reckonDoubles_1 : decode cX9_reckonDoubles 1 = .ok (.invokestatic 139, 3) := by decide +kernel
theorem dX9_reckonDoubles_4 : decode cX9_reckonDoubles 4 = .ok (.istore 6, 2) := by decide +kernel
theorem dX9_reckonDoubles_6 : decode cX9_reckonDoubles 6 = .ok (.dload 4, 2) := by decide +kernel
theorem dX9_reckonDoubles_8 : decode cX9_reckonDoubles 8 = .ok (.invokestatic 139, 3) := by decide +kernel
theorem dX9_reckonDoubles_11 : decode cX9_reckonDoubles 11 = .ok (.istore 7, 2) := by decide +kernel
theorem dX9_reckonDoubles_13 : decode cX9_reckonDoubles 13 = .ok (.iload_n 1, 1) := by decide +kernel
theorem dX9_reckonDoubles_14 : decode cX9_reckonDoubles 14 = .ok (.ifCond .ne 28, 3) := by decide +kernel
theorem dX9_reckonDoubles_17 : decode cX9_reckonDoubles 17 = .ok (.iload 6, 2) := by decide +kernel
theorem dX9_reckonDoubles_19 : decode cX9_reckonDoubles 19 = .ok (.ifCond .eq 19, 3) := by decide +kernel
theorem dX9_reckonDoubles_22 : decode cX9_reckonDoubles 22 = .ok (.iload 7, 2) := by decide +kernel
theorem dX9_reckonDoubles_24 : decode cX9_reckonDoubles 24 = .ok (.ifCond .eq 14, 3) := by decide +kernel
theorem dX9_reckonDoubles_27 : decode cX9_reckonDoubles 27 = .ok (.dload_n 2, 1) := by decide +kernel
theorem dX9_reckonDoubles_28 : decode cX9_reckonDoubles 28 = .ok (.dload 4, 2) := by decide +kernel
theorem dX9_reckonDoubles_30 : decode cX9_reckonDoubles 30 = .ok (.dcmp .l, 1) := by decide +kernel
theorem dX9_reckonDoubles_31 : decode cX9_reckonDoubles 31 = .ok (.ifCond .eq 7, 3) := by decide +kernel
theorem dX9_reckonDoubles_34 : decode cX9_reckonDoubles 34 = .ok (.iconst 1, 1) := by decide +kernel
theorem dX9_reckonDoubles_35 : decode cX9_reckonDoubles 35 = .ok (.goto 126, 3) := by decide +kernel
theorem dX9_reckonDoubles_38 : decode cX9_reckonDoubles 38 = .ok (.iconst 0, 1) := by decide +kernel
theorem dX9_reckonDoubles_39 : decode cX9_reckonDoubles 39 = .ok (.goto 122, 3) := by decide +kernel
theorem dX9_reckonDoubles_42 : decode cX9_reckonDoubles 42 = .ok (.iload_n 1, 1) := by decide +kernel
theorem dX9_reckonDoubles_43 : decode cX9_reckonDoubles 43 = .ok (.iconst 1, 1) := by decide +kernel
theorem dX9_reckonDoubles_44 : decode cX9_reckonDoubles 44 = .ok (.if_icmp .ne 28, 3) := by decide +kernel
theorem dX9_reckonDoubles_47 : decode cX9_reckonDoubles 47 = .ok (.iload 6, 2) := by decide +kernel
theorem dX9_reckonDoubles_49 : decode cX9_reckonDoubles 49 = .ok (.ifCond .eq 19, 3) := by decide +kernel
theorem dX9_reckonDoubles_52 : decode cX9_reckonDoubles 52 = .ok (.iload 7, 2) := by decide +kernel
theorem dX9_reckonDoubles_54 : decode cX9_reckonDoubles 54 = .ok (.ifCond .eq 14, 3) := by decide +kernel
theorem dX9_reckonDoubles_57 : decode cX9_reckonDoubles 57 = .ok (.dload_n 2, 1) := by decide +kernel
theorem dX9_reckonDoubles_58 : decode cX9_reckonDoubles 58 = .ok (.dload 4, 2) := by decide +kernel
theorem dX9_reckonDoubles_60 : decode cX9_reckonDoubles 60 = .ok (.dcmp .l, 1) := by decide +kernel
theorem dX9_reckonDoubles_61 : decode cX9_reckonDoubles 61 = .ok (.ifCond .ne 7, 3) := by decide +kernel
theorem dX9_reckonDoubles_64 : decode cX9_reckonDoubles 64 = .ok (.iconst 1, 1) := by decide +kernel
theorem dX9_reckonDoubles_65 : decode cX9_reckonDoubles 65 = .ok (.goto 96, 3) := by decide +kernel
theorem dX9_reckonDoubles_68 : decode cX9_reckonDoubles 68 = .ok (.iconst 0, 1) := by decide +kernel
theorem dX9_reckonDoubles_69 : decode cX9_reckonDoubles 69 = .ok (.goto 92, 3) := by decide +kernel
theorem dX9_reckonDoubles_72 : decode cX9_reckonDoubles 72 = .ok (.iload_n 1, 1) := by decide +kernel
theorem dX9_reckonDoubles_73 : decode cX9_reckonDoubles 73 = .ok (.iconst 2, 1) := by decide +kernel
theorem dX9_reckonDoubles_74 : decode cX9_reckonDoubles 74 = .ok (.if_icmp .ne 34, 3) := by decide +kernel
theorem dX9_reckonDoubles_77 : decode cX9_reckonDoubles 77 = .ok (.iload 6, 2) := by decide +kernel
theorem dX9_reckonDoubles_79 : decode cX9_reckonDoubles 79 = .ok (.ifCond .eq 10, 3) := by decide +kernel
theorem dX9_reckonDoubles_82 : decode cX9_reckonDoubles 82 = .ok (.dload 4, 2) := by decide +kernel
theorem dX9_reckonDoubles_84 : decode cX9_reckonDoubles 84 = .ok (.dconst 0, 1) := by decide +kernel
theorem dX9_reckonDoubles_85 : decode cX9_reckonDoubles 85 = .ok (.dcmp .l, 1) := by decide +kernel
theorem dX9_reckonDoubles_86 : decode cX9_reckonDoubles 86 = .ok (.ifCond .eq 14, 3) := by decide +kernel
theorem dX9_reckonDoubles_89 : decode cX9_reckonDoubles 89 = .ok (.iload 7, 2) := by decide +kernel
theorem dX9_reckonDoubles_91 : decode cX9_reckonDoubles 91 = .ok (.ifCond .eq 13, 3) := by decide +kernel
theorem dX9_reckonDoubles_94 : decode cX9_reckonDoubles 94 = .ok (.dload_n 2, 1) := by decide +kernel
theorem dX9_reckonDoubles_95 : decode cX9_reckonDoubles 95 = .ok (.dconst 0, 1) := by decide +kernel
theorem dX9_reckonDoubles_96 : decode cX9_reckonDoubles 96 = .ok (.dcmp .l, 1) := by decide +kernel
theorem dX9_reckonDoubles_97 : decode cX9_reckonDoubles 97 = .ok (.ifCond .ne 7, 3) := by decide +kernel
theorem dX9_reckonDoubles_100 : decode cX9_reckonDoubles 100 = .ok (.iconst 1, 1) := by decide +kernel
theorem dX9_reckonDoubles_101 : decode cX9_reckonDoubles 101 = .ok (.goto 60, 3) := by decide +kernel
theorem dX9_reckonDoubles_104 : decode cX9_reckonDoubles 104 = .ok (.iconst 0, 1) := by decide +kernel
theorem dX9_reckonDoubles_105 : decode cX9_reckonDoubles 105 = .ok (.goto 56, 3) := by decide +kernel
theorem dX9_reckonDoubles_108 : decode cX9_reckonDoubles 108 = .ok (.iload_n 1, 1) := by decide +kernel
theorem dX9_reckonDoubles_109 : decode cX9_reckonDoubles 109 = .ok (.iconst 3, 1) := by decide +kernel
theorem dX9_reckonDoubles_110 : decode cX9_reckonDoubles 110 = .ok (.if_icmp .ne 34, 3) := by decide +kernel
theorem dX9_reckonDoubles_113 : decode cX9_reckonDoubles 113 = .ok (.iload 6, 2) := by decide +kernel
theorem dX9_reckonDoubles_115 : decode cX9_reckonDoubles 115 = .ok (.ifCond .eq 8, 3) := by decide +kernel
theorem dX9_reckonDoubles_118 : decode cX9_reckonDoubles 118 = .ok (.iload 7, 2) := by decide +kernel
theorem dX9_reckonDoubles_120 : decode cX9_reckonDoubles 120 = .ok (.ifCond .ne 16, 3) := by decide +kernel
theorem dX9_reckonDoubles_123 : decode cX9_reckonDoubles 123 = .ok (.dload_n 2, 1) := by decide +kernel
theorem dX9_reckonDoubles_124 : decode cX9_reckonDoubles 124 = .ok (.dconst 0, 1) := by decide +kernel
theorem dX9_reckonDoubles_125 : decode cX9_reckonDoubles 125 = .ok (.dcmp .l, 1) := by decide +kernel
theorem dX9_reckonDoubles_126 : decode cX9_reckonDoubles 126 = .ok (.ifCond .ne 14, 3) := by decide +kernel
theorem dX9_reckonDoubles_129 : decode cX9_reckonDoubles 129 = .ok (.dload 4, 2) := by decide +kernel
theorem dX9_reckonDoubles_131 : decode cX9_reckonDoubles 131 = .ok (.dconst 0, 1) := by decide +kernel
theorem dX9_reckonDoubles_132 : decode cX9_reckonDoubles 132 = .ok (.dcmp .l, 1) := by decide +kernel
theorem dX9_reckonDoubles_133 : decode cX9_reckonDoubles 133 = .ok (.ifCond .ne 7, 3) := by decide +kernel
theorem dX9_reckonDoubles_136 : decode cX9_reckonDoubles 136 = .ok (.iconst 1, 1) := by decide +kernel
theorem dX9_reckonDoubles_137 : decode cX9_reckonDoubles 137 = .ok (.goto 24, 3) := by decide +kernel
theorem dX9_reckonDoubles_140 : decode cX9_reckonDoubles 140 = .ok (.iconst 0, 1) := by decide +kernel
theorem dX9_reckonDoubles_141 : decode cX9_reckonDoubles 141 = .ok (.goto 20, 3) := by decide +kernel
theorem dX9_reckonDoubles_144 : decode cX9_reckonDoubles 144 = .ok (.iload 6, 2) := by decide +kernel
theorem dX9_reckonDoubles_146 : decode cX9_reckonDoubles 146 = .ok (.ifCond .ne 10, 3) := by decide +kernel
theorem dX9_reckonDoubles_149 : decode cX9_reckonDoubles 149 = .ok (.dload 4, 2) := by decide +kernel
theorem dX9_reckonDoubles_151 : decode cX9_reckonDoubles 151 = .ok (.dconst 0, 1) := by decide +kernel
theorem dX9_reckonDoubles_152 : decode cX9_reckonDoubles 152 = .ok (.dcmp .l, 1) := by decide +kernel
theorem dX9_reckonDoubles_153 : decode cX9_reckonDoubles 153 = .ok (.ifCond .ne 7, 3) := by decide +kernel
theorem dX9_reckonDoubles_156 : decode cX9_reckonDoubles 156 = .ok (.iconst 1, 1) := by decide +kernel
theorem dX9_reckonDoubles_157 : decode cX9_reckonDoubles 157 = .ok (.goto 4, 3) := by decide +kernel
theorem dX9_reckonDoubles_160 : decode cX9_reckonDoubles 160 = .ok (.iconst 0, 1) := by decide +kernel
theorem dX9_reckonDoubles_161 : decode cX9_reckonDoubles 161 = .ok (.istore 8, 2) := by decide +kernel
theorem dX9_reckonDoubles_163 : decode cX9_reckonDoubles 163 = .ok (.iload 8, 2) := by decide +kernel
theorem dX9_reckonDoubles_165 : decode cX9_reckonDoubles 165 = .ok (.ifCond .eq 9, 3) := by decide +kernel
theorem dX9_reckonDoubles_168 : decode cX9_reckonDoubles 168 = .ok (.aload_n 0, 1) := by decide +kernel
theorem dX9_reckonDoubles_169 : decode cX9_reckonDoubles 169 = .ok (.iconst 5, 1) := by decide +kernel
theorem dX9_reckonDoubles_170 : decode cX9_reckonDoubles 170 = .ok (.putfield 65, 3) := by decide +kernel
theorem dX9_reckonDoubles_173 : decode cX9_reckonDoubles 173 = .ok (.return_, 1) := by decide +kernel
theorem dX9_reckonDoubles_174 : decode cX9_reckonDoubles 174 = .ok (.aload_n 0, 1) := by decide +kernel
theorem dX9_reckonDoubles_175 : decode cX9_reckonDoubles 175 = .ok (.iload_n 1, 1) := by decide +kernel
theorem dX9_reckonDoubles_176 : decode cX9_reckonDoubles 176 = .ok (.ifCond .ne 10, 3) := by decide +kernel
theorem dX9_reckonDoubles_179 : decode cX9_reckonDoubles 179 = .ok (.dload_n 2, 1) := by decide +kernel
theorem dX9_reckonDoubles_180 : decode cX9_reckonDoubles 180 = .ok (.dload 4, 2) := by decide +kernel
theorem dX9_reckonDoubles_182 : decode cX9_reckonDoubles 182 = .ok (.dadd, 1) := by decide +kernel
theorem dX9_reckonDoubles_183 : decode cX9_reckonDoubles 183 = .ok (.goto 52, 3) := by decide +kernel
theorem dX9_reckonDoubles_186 : decode cX9_reckonDoubles 186 = .ok (.iload_n 1, 1) := by decide +kernel
theorem dX9_reckonDoubles_187 : decode cX9_reckonDoubles 187 = .ok (.iconst 1, 1) := by decide +kernel
theorem dX9_reckonDoubles_188 : decode cX9_reckonDoubles 188 = .ok (.if_icmp .ne 10, 3) := by decide +kernel
theorem dX9_reckonDoubles_191 : decode cX9_reckonDoubles 191 = .ok (.dload_n 2, 1) := by decide +kernel
theorem dX9_reckonDoubles_192 : decode cX9_reckonDoubles 192 = .ok (.dload 4, 2) := by decide +kernel
theorem dX9_reckonDoubles_194 : decode cX9_reckonDoubles 194 = .ok (.dsub, 1) := by decide +kernel
theorem dX9_reckonDoubles_195 : decode cX9_reckonDoubles 195 = .ok (.goto 40, 3) := by decide +kernel
theorem dX9_reckonDoubles_198 : decode cX9_reckonDoubles 198 = .ok (.iload_n 1, 1) := by decide +kernel
theorem dX9_reckonDoubles_199 : decode cX9_reckonDoubles 199 = .ok (.iconst 2, 1) := by decide +kernel
theorem dX9_reckonDoubles_200 : decode cX9_reckonDoubles 200 = .ok (.if_icmp .ne 10, 3) := by decide +kernel
theorem dX9_reckonDoubles_203 : decode cX9_reckonDoubles 203 = .ok (.dload_n 2, 1) := by decide +kernel
theorem dX9_reckonDoubles_204 : decode cX9_reckonDoubles 204 = .ok (.dload 4, 2) := by decide +kernel
theorem dX9_reckonDoubles_206 : decode cX9_reckonDoubles 206 = .ok (.dmul, 1) := by decide +kernel
theorem dX9_reckonDoubles_207 : decode cX9_reckonDoubles 207 = .ok (.goto 28, 3) := by decide +kernel
theorem dX9_reckonDoubles_210 : decode cX9_reckonDoubles 210 = .ok (.iload_n 1, 1) := by decide +kernel
theorem dX9_reckonDoubles_211 : decode cX9_reckonDoubles 211 = .ok (.iconst 3, 1) := by decide +kernel
theorem dX9_reckonDoubles_212 : decode cX9_reckonDoubles 212 = .ok (.if_icmp .ne 10, 3) := by decide +kernel
theorem dX9_reckonDoubles_215 : decode cX9_reckonDoubles 215 = .ok (.dload_n 2, 1) := by decide +kernel
theorem dX9_reckonDoubles_216 : decode cX9_reckonDoubles 216 = .ok (.dload 4, 2) := by decide +kernel
theorem dX9_reckonDoubles_218 : decode cX9_reckonDoubles 218 = .ok (.ddiv, 1) := by decide +kernel
theorem dX9_reckonDoubles_219 : decode cX9_reckonDoubles 219 = .ok (.goto 16, 3) := by decide +kernel
theorem dX9_reckonDoubles_222 : decode cX9_reckonDoubles 222 = .ok (.iload 7, 2) := by decide +kernel
theorem dX9_reckonDoubles_224 : decode cX9_reckonDoubles 224 = .ok (.ifCond .eq 7, 3) := by decide +kernel
theorem dX9_reckonDoubles_227 : decode cX9_reckonDoubles 227 = .ok (.dload_n 2, 1) := by decide +kernel
theorem dX9_reckonDoubles_228 : decode cX9_reckonDoubles 228 = .ok (.goto 7, 3) := by decide +kernel
theorem dX9_reckonDoubles_231 : decode cX9_reckonDoubles 231 = .ok (.dload_n 2, 1) := by decide +kernel
theorem dX9_reckonDoubles_232 : decode cX9_reckonDoubles 232 = .ok (.dload 4, 2) := by decide +kernel
theorem dX9_reckonDoubles_234 : decode cX9_reckonDoubles 234 = .ok (.drem, 1) := by decide +kernel

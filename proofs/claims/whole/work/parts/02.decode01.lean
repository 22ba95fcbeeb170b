theorem dX8_init_180 : decode cX8_init 180 = .ok (.dup, 1) := by decide +kernel
theorem dX8_init_181 : decode cX8_init 181 = .ok (.invokespecial 61, 3) := by decide +kernel
theorem dX8_init_184 : decode cX8_init 184 = .ok (.aastore, 1) := by decide +kernel
theorem dX8_init_185 : decode cX8_init 185 = .ok (.iinc 1 1, 3) := by decide +kernel
theorem dX8_init_188 : decode cX8_init 188 = .ok (.goto (-21), 3) := by decide +kernel
theorem dX8_init_191 : decode cX8_init 191 = .ok (.iconst 0, 1) := by decide +kernel
theorem dX8_init_192 : decode cX8_init 192 = .ok (.istore_n 1, 1) := by decide +kernel
theorem dX8_init_193 : decode cX8_init 193 = .ok (.iload_n 1, 1) := by decide +kernel
theorem dX8_init_194 : decode cX8_init 194 = .ok (.iconst 4, 1) := by decide +kernel
theorem dX8_init_195 : decode cX8_init 195 = .ok (.if_icmp .ge 22, 3) := by decide +kernel
theorem dX8_init_198 : decode cX8_init 198 = .ok (.aload_n 0, 1) := by decide +kernel
theorem dX8_init_199 : decode cX8_init 199 = .ok (.getfield 41, 3) := by decide +kernel
theorem dX8_init_202 : decode cX8_init 202 = .ok (.iload_n 1, 1) := by decide +kernel
theorem dX8_init_203 : decode cX8_init 203 = .ok (.new 39, 3) := by decide +kernel
theorem dX8_init_206 : decode cX8_init 206 = .ok (.dup, 1) := by decide +kernel
theorem dX8_init_207 : decode cX8_init 207 = .ok (.invokespecial 62, 3) := by decide +kernel
theorem dX8_init_210 : decode cX8_init 210 = .ok (.aastore, 1) := by decide +kernel
theorem dX8_init_211 : decode cX8_init 211 = .ok (.iinc 1 1, 3) := by decide +kernel
theorem dX8_init_214 : decode cX8_init 214 = .ok (.goto (-21), 3) := by decide +kernel
theorem dX8_init_217 : decode cX8_init 217 = .ok (.return_, 1) := by decide +kernel
set_option maxRecDepth 20000 in
theorem ggX8_set_X8_meterOf : GoodIn wsX8_set wsX8_meterOf := goodIn_r _ [5, 6, 68, 69, 70, 71, 72, 73, 74, 75, 76] (by decide +kernel) (by decide +kernel)
set_option maxRecDepth 20000 in
theorem gX8_set_X8_meterOf : GoodIn wsX8_set (wsV RX8 63 RX8 yX8_meterOf wsX8_meterOf) := goodIn_app (goodIn_of _ (by decide +kernel)) ggX8_set_X8_meterOf
set_option maxRecDepth 20000 in
theorem ggX8_set_X8_isLane : GoodIn wsX8_set wsX8_isLane := goodIn_r _ [9] (by decide +kernel) (by decide +kernel)
set_option maxRecDepth 20000 in
theorem gX8_set_X8_isLane : GoodIn wsX8_set (va_wsS RX8 67 yX8_isLane wsX8_isLane) := goodIn_app (goodIn_of _ (by decide +kernel)) ggX8_set_X8_isLane
set_option maxRecDepth 20000 in
theorem ggX8_set_X4_holdWhole : GoodIn wsX8_set wsX4_holdWhole := goodIn_r _ [14, 15, 16, 77, 78, 79] (by decide +kernel) (by decide +kernel)
set_option maxRecDepth 20000 in
theorem gX8_set_X4_holdWhole : GoodIn wsX8_set (wsV RX8 71 RX4 yX4_holdWhole wsX4_holdWhole) := goodIn_app (goodIn_of _ (by decide +kernel)) ggX8_set_X4_holdWhole
set_option maxRecDepth 20000 in
theorem ggX8_set_X8_formOf : GoodIn wsX8_set wsX8_formOf := goodIn_r _ [19, 20, 21] (by decide +kernel) (by decide +kernel)
set_option maxRecDepth 20000 in
theorem gX8_set_X8_formOf : GoodIn wsX8_set (va_wsS RX8 75 yX8_formOf wsX8_formOf) := goodIn_app (goodIn_of _ (by decide +kernel)) ggX8_set_X8_formOf
set_option maxRecDepth 20000 in
theorem ggX8_set_X2_isNumber : GoodIn wsX8_set wsX2_isNumber := goodIn_r _ [26, 27, 28, 29, 25, 30, 31, 32, 33, 34, 35, 36, 37] (by decide +kernel) (by decide +kernel)
set_option maxRecDepth 20000 in
theorem gX8_set_X2_isNumber : GoodIn wsX8_set (wsV RX8 79 RX2 yX2_isNumber wsX2_isNumber) := goodIn_app (goodIn_of _ (by decide +kernel)) ggX8_set_X2_isNumber
set_option maxRecDepth 20000 in
theorem ggX8_set_X2_numberOf : GoodIn wsX8_set wsX2_numberOf := goodIn_r _ [41, 42, 31, 27, 28, 29, 25, 30, 32, 33, 34, 35, 36, 37, 43, 44, 45, 46, 47, 48, 49, 50, 51, 52, 53, 54, 55, 56, 4, 57, 58, 59, 60, 61, 62] (by decide +kernel) (by decide +kernel)
set_option maxRecDepth 20000 in
theorem gX8_set_X2_numberOf : GoodIn wsX8_set (wsV RX8 85 RX2 yX2_numberOf wsX2_numberOf) := goodIn_app (goodIn_of _ (by decide +kernel)) ggX8_set_X2_numberOf
set_option maxRecDepth 20000 in
theorem ggX8_set_X4_holdReal : GoodIn wsX8_set wsX4_holdReal := goodIn_r _ [66, 15, 67, 77, 78, 79] (by decide +kernel) (by decide +kernel)
set_option maxRecDepth 20000 in
theorem gX8_set_X4_holdReal : GoodIn wsX8_set (wsV RX8 89 RX4 yX4_holdReal wsX4_holdReal) := goodIn_app (goodIn_of _ (by decide +kernel)) ggX8_set_X4_holdReal
theorem dX8_set_0 : decode cX8_set 0 = .ok (.aload_n 0, 1) := by decide +kernel
theorem dX8_set_1 : decode cX8_set 1 = .ok (.iload_n 1, 1) := by decide +kernel
theorem dX8_set_2 : decode cX8_set 2 = .ok (.invokevirtual 63, 3) := by decide +kernel
theorem dX8_set_5 : decode cX8_set 5 = .ok (.astore 5, 2) := by decide +kernel
theorem dX8_set_7 : decode cX8_set 7 = .ok (.aload 5, 2) := by decide +kernel
theorem dX8_set_9 : decode cX8_set 9 = .ok (.ifnonnull 7, 3) := by decide +kernel
theorem dX8_set_12 : decode cX8_set 12 = .ok (.sipush (-1001), 3) := by decide +kernel
theorem dX8_set_15 : decode cX8_set 15 = .ok (.ireturn, 1) := by decide +kernel
theorem dX8_set_16 : decode cX8_set 16 = .ok (.iload_n 2, 1) := by decide +kernel
theorem dX8_set_17 : decode cX8_set 17 = .ok (.invokestatic 67, 3) := by decide +kernel
theorem dX8_set_20 : decode cX8_set 20 = .ok (.ifCond .ne 7, 3) := by decide +kernel
theorem dX8_set_23 : decode cX8_set 23 = .ok (.sipush (-1002), 3) := by decide +kernel
theorem dX8_set_26 : decode cX8_set 26 = .ok (.ireturn, 1) := by decide +kernel
theorem dX8_set_27 : decode cX8_set 27 = .ok (.iload_n 2, 1) := by decide +kernel
theorem dX8_set_28 : decode cX8_set 28 = .ok (.iconst 1, 1) := by decide +kernel
theorem dX8_set_29 : decode cX8_set 29 = .ok (.if_icmp .gt 12, 3) := by decide +kernel
theorem dX8_set_32 : decode cX8_set 32 = .ok (.aload 5, 2) := by decide +kernel
theorem dX8_set_34 : decode cX8_set 34 = .ok (.iload_n 2, 1) := by decide +kernel
theorem dX8_set_35 : decode cX8_set 35 = .ok (.lload_n 3, 1) := by decide +kernel
theorem dX8_set_36 : decode cX8_set 36 = .ok (.invokevirtual 71, 3) := by decide +kernel
theorem dX8_set_39 : decode cX8_set 39 = .ok (.iconst 1, 1) := by decide +kernel
theorem dX8_set_40 : decode cX8_set 40 = .ok (.ireturn, 1) := by decide +kernel
theorem dX8_set_41 : decode cX8_set 41 = .ok (.iload_n 2, 1) := by decide +kernel
theorem dX8_set_42 : decode cX8_set 42 = .ok (.invokestatic 75, 3) := by decide +kernel
theorem dX8_set_45 : decode cX8_set 45 = .ok (.astore 6, 2) := by decide +kernel
theorem dX8_set_47 : decode cX8_set 47 = .ok (.aload 6, 2) := by decide +kernel
theorem dX8_set_49 : decode cX8_set 49 = .ok (.lload_n 3, 1) := by decide +kernel
theorem dX8_set_50 : decode cX8_set 50 = .ok (.invokevirtual 79, 3) := by decide +kernel
theorem dX8_set_53 : decode cX8_set 53 = .ok (.ifCond .ne 7, 3) := by decide +kernel
theorem dX8_set_56 : decode cX8_set 56 = .ok (.sipush (-1002), 3) := by decide +kernel
theorem dX8_set_59 : decode cX8_set 59 = .ok (.ireturn, 1) := by decide +kernel
theorem dX8_set_60 : decode cX8_set 60 = .ok (.aload 5, 2) := by decide +kernel
theorem dX8_set_62 : decode cX8_set 62 = .ok (.iload_n 2, 1) := by decide +kernel
theorem dX8_set_63 : decode cX8_set 63 = .ok (.aload 6, 2) := by decide +kernel
theorem dX8_set_65 : decode cX8_set 65 = .ok (.lload_n 3, 1) := by decide +kernel
theorem dX8_set_66 : decode cX8_set 66 = .ok (.invokevirtual 85, 3) := by decide +kernel
theorem dX8_set_69 : decode cX8_set 69 = .ok (.invokevirtual 89, 3) := by decide +kernel
theorem dX8_set_72 : decode cX8_set 72 = .ok (.iconst 1, 1) := by decide +kernel
theorem dX8_set_73 : decode cX8_set 73 = .ok (.ireturn, 1) := by decide +kernel
set_option maxRecDepth 20000 in
theorem ggX8_bits_X8_meterOf : GoodIn wsX8_bits wsX8_meterOf := goodIn_r _ [9, 10, 55, 56, 57, 58, 59, 60, 61, 62, 63] (by decide +kernel) (by decide +kernel)
set_option maxRecDepth 20000 in
theorem gX8_bits_X8_meterOf : GoodIn wsX8_bits (wsV RX8 63 RX8 yX8_meterOf wsX8_meterOf) := goodIn_app (goodIn_of _ (by decide +kernel)) ggX8_bits_X8_meterOf
set_option maxRecDepth 20000 in
theorem ggX8_bits_X4_isWhole : GoodIn wsX8_bits wsX4_isWhole := goodIn_r _ [15, 16, 52, 53, 54] (by decide +kernel) (by decide +kernel)
set_option maxRecDepth 20000 in
theorem gX8_bits_X4_isWhole : GoodIn wsX8_bits (wsV RX8 95 RX4 yX4_isWhole wsX4_isWhole) := goodIn_app (goodIn_of _ (by decide +kernel)) ggX8_bits_X4_isWhole
set_option maxRecDepth 20000 in
theorem ggX8_bits_X8_formOf : GoodIn wsX8_bits wsX8_formOf := goodIn_r _ [19, 20, 21] (by decide +kernel) (by decide +kernel)
set_option maxRecDepth 20000 in
theorem gX8_bits_X8_formOf : GoodIn wsX8_bits (va_wsS RX8 75 yX8_formOf wsX8_formOf) := goodIn_app (goodIn_of _ (by decide +kernel)) ggX8_bits_X8_formOf
set_option maxRecDepth 20000 in
theorem ggX8_bits_X2_bitsOf : GoodIn wsX8_bits wsX2_bitsOf := goodIn_r _ [26, 27, 28, 29, 30, 31, 25, 32, 33, 34, 35, 36, 8, 37, 38, 39, 40, 41, 42, 43, 44, 45, 46, 47, 48, 49, 50, 51] (by decide +kernel) (by decide +kernel)
set_option maxRecDepth 20000 in
theorem gX8_bits_X2_bitsOf : GoodIn wsX8_bits (wsV RX8 110 RX2 yX2_bitsOf wsX2_bitsOf) := goodIn_app (goodIn_of _ (by decide +kernel)) ggX8_bits_X2_bitsOf
theorem dX8_bits_0 : decode cX8_bits 0 = .ok (.aload_n 0, 1) := by decide +kernel
theorem dX8_bits_1 : decode cX8_bits 1 = .ok (.iload_n 1, 1) := by decide +kernel
theorem dX8_bits_2 : decode cX8_bits 2 = .ok (.invokevirtual 63, 3) := by decide +kernel
theorem dX8_bits_5 : decode cX8_bits 5 = .ok (.astore_n 2, 1) := by decide +kernel
theorem dX8_bits_6 : decode cX8_bits 6 = .ok (.aload_n 2, 1) := by decide +kernel
theorem dX8_bits_7 : decode cX8_bits 7 = .ok (.ifnonnull 7, 3) := by decide +kernel
theorem dX8_bits_10 : decode cX8_bits 10 = .ok (.ldc2_w 93, 3) := by decide +kernel
theorem dX8_bits_13 : decode cX8_bits 13 = .ok (.lreturn, 1) := by decide +kernel
theorem dX8_bits_14 : decode cX8_bits 14 = .ok (.aload_n 2, 1) := by decide +kernel
theorem dX8_bits_15 : decode cX8_bits 15 = .ok (.invokevirtual 95, 3) := by decide +kernel
theorem dX8_bits_18 : decode cX8_bits 18 = .ok (.ifCond .eq 10, 3) := by decide +kernel
theorem dX8_bits_21 : decode cX8_bits 21 = .ok (.aload_n 2, 1) := by decide +kernel
theorem dX8_bits_22 : decode cX8_bits 22 = .ok (.getfield 99, 3) := by decide +kernel
theorem dX8_bits_25 : decode cX8_bits 25 = .ok (.goto 17, 3) := by decide +kernel
theorem dX8_bits_28 : decode cX8_bits 28 = .ok (.aload_n 2, 1) := by decide +kernel
theorem dX8_bits_29 : decode cX8_bits 29 = .ok (.getfield 103, 3) := by decide +kernel
theorem dX8_bits_32 : decode cX8_bits 32 = .ok (.invokestatic 75, 3) := by decide +kernel
theorem dX8_bits_35 : decode cX8_bits 35 = .ok (.aload_n 2, 1) := by decide +kernel
theorem dX8_bits_36 : decode cX8_bits 36 = .ok (.getfield 106, 3) := by decide +kernel
theorem dX8_bits_39 : decode cX8_bits 39 = .ok (.invokevirtual 110, 3) := by decide +kernel
theorem dX8_bits_42 : decode cX8_bits 42 = .ok (.lreturn, 1) := by decide +kernel
set_option maxRecDepth 20000 in
theorem ggX8_lane_X8_meterOf : GoodIn wsX8_lane wsX8_meterOf := goodIn_r _ [6, 7, 11, 12, 13, 14, 15, 16, 17, 18, 19] (by decide +kernel) (by decide +kernel)
set_option maxRecDepth 20000 in
theorem gX8_lane_X8_meterOf : GoodIn wsX8_lane (wsV RX8 63 RX8 yX8_meterOf wsX8_meterOf) := goodIn_app (goodIn_of _ (by decide +kernel)) ggX8_lane_X8_meterOf
theorem dX8_lane_0 : decode cX8_lane 0 = .ok (.aload_n 0, 1) := by decide +kernel
theorem dX8_lane_1 : decode cX8_lane 1 = .ok (.iload_n 1, 1) := by decide +kernel
theorem dX8_lane_2 : decode cX8_lane 2 = .ok (.invokevirtual 63, 3) := by decide +kernel
theorem dX8_lane_5 : decode cX8_lane 5 = .ok (.astore_n 2, 1) := by decide +kernel
theorem dX8_lane_6 : decode cX8_lane 6 = .ok (.aload_n 2, 1) := by decide +kernel
theorem dX8_lane_7 : decode cX8_lane 7 = .ok (.ifnonnull 9, 3) := by decide +kernel
theorem dX8_lane_10 : decode cX8_lane 10 = .ok (.sipush (-1001), 3) := by decide +kernel
theorem dX8_lane_13 : decode cX8_lane 13 = .ok (.goto 7, 3) := by decide +kernel
theorem dX8_lane_16 : decode cX8_lane 16 = .ok (.aload_n 2, 1) := by decide +kernel
theorem dX8_lane_17 : decode cX8_lane 17 = .ok (.getfield 103, 3) := by decide +kernel
theorem dX8_lane_20 : decode cX8_lane 20 = .ok (.ireturn, 1) := by decide +kernel
set_option maxRecDepth 20000 in
theorem ggX8_turn_X8_meterOf : GoodIn wsX8_turn wsX8_meterOf := goodIn_r _ [5, 6, 50, 51, 52, 53, 54, 55, 56, 57, 58] (by decide +kernel) (by decide +kernel)
set_option maxRecDepth 20000 in
theorem gX8_turn_X8_meterOf : GoodIn wsX8_turn (wsV RX8 63 RX8 yX8_meterOf wsX8_meterOf) := goodIn_app (goodIn_of _ (by decide +kernel)) ggX8_turn_X8_meterOf
set_option maxRecDepth 20000 in
theorem ggX8_turn_X8_isLane : GoodIn wsX8_turn wsX8_isLane := goodIn_r _ [9] (by decide +kernel) (by decide +kernel)
set_option maxRecDepth 20000 in
theorem gX8_turn_X8_isLane : GoodIn wsX8_turn (va_wsS RX8 67 yX8_isLane wsX8_isLane) := goodIn_app (goodIn_of _ (by decide +kernel)) ggX8_turn_X8_isLane
set_option maxRecDepth 20000 in
theorem ggX8_turn_X4_turnInto : GoodIn wsX8_turn wsX4_turnInto := goodIn_r _ [14, 15, 16, 17, 13, 18, 19, 20, 21, 22, 23, 24, 25, 26, 27, 28, 29, 30, 31, 32, 33, 34, 35, 36, 37, 38, 39, 40, 41, 42, 43, 44, 45, 46, 47, 48, 49, 59, 60, 61] (by decide +kernel) (by decide +kernel)
set_option maxRecDepth 20000 in
theorem gX8_turn_X4_turnInto : GoodIn wsX8_turn (wsV RX8 114 RX4 yX4_turnInto wsX4_turnInto) := goodIn_app (goodIn_of _ (by decide +kernel)) ggX8_turn_X4_turnInto
theorem dX8_turn_0 : decode cX8_turn 0 = .ok (.aload_n 0, 1) := by decide +kernel
theorem dX8_turn_1 : decode cX8_turn 1 = .ok (.iload_n 1, 1) := by decide +kernel
theorem dX8_turn_2 : decode cX8_turn 2 = .ok (.invokevirtual 63, 3) := by decide +kernel
theorem dX8_turn_5 : decode cX8_turn 5 = .ok (.astore_n 3, 1) := by decide +kernel
theorem dX8_turn_6 : decode cX8_turn 6 = .ok (.aload_n 3, 1) := by decide +kernel
theorem dX8_turn_7 : decode cX8_turn 7 = .ok (.ifnonnull 7, 3) := by decide +kernel
theorem dX8_turn_10 : decode cX8_turn 10 = .ok (.sipush (-1001), 3) := by decide +kernel
theorem dX8_turn_13 : decode cX8_turn 13 = .ok (.ireturn, 1) := by decide +kernel
theorem dX8_turn_14 : decode cX8_turn 14 = .ok (.iload_n 2, 1) := by decide +kernel
theorem dX8_turn_15 : decode cX8_turn 15 = .ok (.invokestatic 67, 3) := by decide +kernel
theorem dX8_turn_18 : decode cX8_turn 18 = .ok (.ifCond .ne 7, 3) := by decide +kernel
theorem dX8_turn_21 : decode cX8_turn 21 = .ok (.sipush (-1002), 3) := by decide +kernel
theorem dX8_turn_24 : decode cX8_turn 24 = .ok (.ireturn, 1) := by decide +kernel
theorem dX8_turn_25 : decode cX8_turn 25 = .ok (.aload_n 3, 1) := by decide +kernel
theorem dX8_turn_26 : decode cX8_turn 26 = .ok (.iload_n 2, 1) := by decide +kernel
theorem dX8_turn_27 : decode cX8_turn 27 = .ok (.invokevirtual 114, 3) := by decide +kernel
theorem dX8_turn_30 : decode cX8_turn 30 = .ok (.iconst 1, 1) := by decide +kernel
theorem dX8_turn_31 : decode cX8_turn 31 = .ok (.ireturn, 1) := by decide +kernel
set_option maxRecDepth 20000 in
theorem ggX8_reckon_X8_meterOf : GoodIn wsX8_reckon wsX8_meterOf := goodIn_r _ [10, 11, 113, 114, 115, 116, 117, 118, 119, 120, 121] (by decide +kernel) (by decide +kernel)
set_option maxRecDepth 20000 in
theorem gX8_reckon_X8_meterOf : GoodIn wsX8_reckon (wsV RX8 63 RX8 yX8_meterOf wsX8_meterOf) := goodIn_app (goodIn_of _ (by decide +kernel)) ggX8_reckon_X8_meterOf
set_option maxRecDepth 20000 in
theorem ggX8_reckon_X4_asLong : GoodIn wsX8_reckon wsX4_asLong := goodIn_r _ [16, 17, 18, 19, 20, 21, 15, 22, 23, 110, 111, 112] (by decide +kernel) (by decide +kernel)
set_option maxRecDepth 20000 in
theorem gX8_reckon_X4_asLong : GoodIn wsX8_reckon (wsV RX8 123 RX4 yX4_asLong wsX4_asLong) := goodIn_app (goodIn_of _ (by decide +kernel)) ggX8_reckon_X4_asLong
set_option maxRecDepth 20000 in
theorem ggX8_reckon_X8_reckonWholes : GoodIn wsX8_reckon wsX8_reckonWholes := goodIn_r _ [27, 28, 29, 30, 9, 31, 32, 33, 34, 35, 36, 15, 37, 23, 17, 38, 39, 40, 41, 113, 114, 115, 116, 117, 118, 119, 120, 121, 110, 111, 112] (by decide +kernel) (by decide +kernel)
set_option maxRecDepth 20000 in
theorem gX8_reckon_X8_reckonWholes : GoodIn wsX8_reckon (wsV RX8 127 RX8 yX8_reckonWholes wsX8_reckonWholes) := goodIn_app (goodIn_of _ (by decide +kernel)) ggX8_reckon_X8_reckonWholes
set_option maxRecDepth 20000 in
theorem ggX8_reckon_X4_asReal : GoodIn wsX8_reckon wsX4_asReal := goodIn_r _ [45, 46, 47, 48, 15, 49, 17, 18, 19, 20, 21, 22, 23, 50, 51, 52, 53, 110, 111, 112] (by decide +kernel) (by decide +kernel)
set_option maxRecDepth 20000 in
theorem gX8_reckon_X4_asReal : GoodIn wsX8_reckon (wsV RX8 131 RX4 yX4_asReal wsX4_asReal) := goodIn_app (goodIn_of _ (by decide +kernel)) ggX8_reckon_X4_asReal
set_option maxRecDepth 20000 in
theorem ggX8_reckon_X8_isVoid : GoodIn wsX8_reckon wsX8_isVoid := goodIn_r _ [56, 57, 58, 9, 59, 60] (by decide +kernel) (by decide +kernel)
set_option maxRecDepth 20000 in
theorem gX8_reckon_X8_isVoid : GoodIn wsX8_reckon (va_wsS RX8 135 yX8_isVoid wsX8_isVoid) := goodIn_app (goodIn_of _ (by decide +kernel)) ggX8_reckon_X8_isVoid
set_option maxRecDepth 20000 in
theorem ggX8_reckon_X8_fail : GoodIn wsX8_reckon wsX8_fail := goodIn_r _ [31, 32, 33, 113, 114, 115, 116, 117, 118, 119, 120, 121] (by decide +kernel) (by decide +kernel)
set_option maxRecDepth 20000 in
theorem gX8_reckon_X8_fail : GoodIn wsX8_reckon (wsV RX8 139 RX8 yX8_fail wsX8_fail) := goodIn_app (goodIn_of _ (by decide +kernel)) ggX8_reckon_X8_fail
set_option maxRecDepth 20000 in
theorem ggX8_reckon_X4_asFloat : GoodIn wsX8_reckon wsX4_asFloat := goodIn_r _ [49, 17, 18, 19, 20, 21, 15, 22, 23, 110, 111, 112] (by decide +kernel) (by decide +kernel)
set_option maxRecDepth 20000 in
theorem gX8_reckon_X4_asFloat : GoodIn wsX8_reckon (wsV RX8 143 RX4 yX4_asFloat wsX4_asFloat) := goodIn_app (goodIn_of _ (by decide +kernel)) ggX8_reckon_X4_asFloat
set_option maxRecDepth 20000 in
theorem ggX8_reckon_X8_makeFloat : GoodIn wsX8_reckon wsX8_makeFloat := goodIn_r _ [64, 65, 66, 9, 67, 68, 69, 70, 4, 71, 57, 58, 59, 60, 72, 73, 74, 75, 76, 77, 78, 79, 80, 81, 82, 83, 84, 85, 86, 87, 88, 89, 90, 91, 92, 93, 94, 95, 96, 97, 98, 99, 100, 3, 5, 101] (by decide +kernel) (by decide +kernel)
set_option maxRecDepth 20000 in
theorem gX8_reckon_X8_makeFloat : GoodIn wsX8_reckon (va_wsS RX8 147 yX8_makeFloat wsX8_makeFloat) := goodIn_app (goodIn_of _ (by decide +kernel)) ggX8_reckon_X8_makeFloat
set_option maxRecDepth 20000 in
theorem ggX8_reckon_X4_asDouble : GoodIn wsX8_reckon wsX4_asDouble := goodIn_r _ [53, 17, 18, 19, 20, 21, 15, 22, 23, 110, 111, 112] (by decide +kernel) (by decide +kernel)
set_option maxRecDepth 20000 in
theorem gX8_reckon_X4_asDouble : GoodIn wsX8_reckon (wsV RX8 151 RX4 yX4_asDouble wsX4_asDouble) := goodIn_app (goodIn_of _ (by decide +kernel)) ggX8_reckon_X4_asDouble
set_option maxRecDepth 20000 in
theorem ggX8_reckon_X8_makeDouble : GoodIn wsX8_reckon wsX8_makeDouble := goodIn_r _ [105, 65, 66, 9, 67, 68, 69, 70, 4, 71, 57, 58, 59, 60, 72, 73, 74, 75, 76, 77, 78, 79, 80, 81, 82, 83, 84, 85, 86, 87, 88, 89, 90, 91, 92, 93, 94, 95, 96, 97, 98, 99, 100, 3, 5, 101] (by decide +kernel) (by decide +kernel)
set_option maxRecDepth 20000 in
theorem gX8_reckon_X8_makeDouble : GoodIn wsX8_reckon (va_wsS RX8 155 yX8_makeDouble wsX8_makeDouble) := goodIn_app (goodIn_of _ (by decide +kernel)) ggX8_reckon_X8_makeDouble
set_option maxRecDepth 20000 in
theorem ggX8_reckon_X4_holdReal : GoodIn wsX8_reckon wsX4_holdReal := goodIn_r _ [109, 23, 18, 110, 111, 112] (by decide +kernel) (by decide +kernel)
set_option maxRecDepth 20000 in
theorem gX8_reckon_X4_holdReal : GoodIn wsX8_reckon (wsV RX8 89 RX4 yX4_holdReal wsX4_holdReal) := goodIn_app (goodIn_of _ (by decide +kernel)) ggX8_reckon_X4_holdReal
set_option maxRecDepth 20000 in
theorem ggX8_reckon_X8_succeed : GoodIn wsX8_reckon wsX8_succeed := goodIn_r _ [41, 33, 113, 114, 115, 116, 117, 118, 119, 120, 121] (by decide +kernel) (by decide +kernel)
set_option maxRecDepth 20000 in
theorem gX8_reckon_X8_succeed : GoodIn wsX8_reckon (wsV RX8 159 RX8 yX8_succeed wsX8_succeed) := goodIn_app (goodIn_of _ (by decide +kernel)) ggX8_reckon_X8_succeed
theorem dX8_reckon_0 : decode cX8_reckon 0 = .ok (.aload_n 0, 1) := by decide +kernel
theorem dX8_reckon_1 : decode cX8_reckon 1 = .ok (.iload_n 2, 1) := by decide +kernel
theorem dX8_reckon_2 : decode cX8_reckon 2 = .ok (.invokevirtual 63, 3) := by decide +kernel
theorem dX8_reckon_5 : decode cX8_reckon 5 = .ok (.astore 5, 2) := by decide +kernel
theorem dX8_reckon_7 : decode cX8_reckon 7 = .ok (.aload_n 0, 1) := by decide +kernel
theorem dX8_reckon_8 : decode cX8_reckon 8 = .ok (.iload_n 3, 1) := by decide +kernel
theorem dX8_reckon_9 : decode cX8_reckon 9 = .ok (.invokevirtual 63, 3) := by decide +kernel
theorem dX8_reckon_12 : decode cX8_reckon 12 = .ok (.astore 6, 2) := by decide +kernel
theorem dX8_reckon_14 : decode cX8_reckon 14 = .ok (.aload_n 0, 1) := by decide +kernel
theorem dX8_reckon_15 : decode cX8_reckon 15 = .ok (.iload 4, 2) := by decide +kernel
theorem dX8_reckon_17 : decode cX8_reckon 17 = .ok (.invokevirtual 63, 3) := by decide +kernel
theorem dX8_reckon_20 : decode cX8_reckon 20 = .ok (.astore 7, 2) := by decide +kernel
theorem dX8_reckon_22 : decode cX8_reckon 22 = .ok (.aload 5, 2) := by decide +kernel
theorem dX8_reckon_24 : decode cX8_reckon 24 = .ok (.ifnull 13, 3) := by decide +kernel
theorem dX8_reckon_27 : decode cX8_reckon 27 = .ok (.aload 6, 2) := by decide +kernel
theorem dX8_reckon_29 : decode cX8_reckon 29 = .ok (.ifnull 8, 3) := by decide +kernel
theorem dX8_reckon_32 : decode cX8_reckon 32 = .ok (.aload 7, 2) := by decide +kernel
theorem dX8_reckon_34 : decode cX8_reckon 34 = .ok (.ifnonnull 7, 3) := by decide +kernel
theorem dX8_reckon_37 : decode cX8_reckon 37 = .ok (.sipush (-1001), 3) := by decide +kernel
theorem dX8_reckon_40 : decode cX8_reckon 40 = .ok (.ireturn, 1) := by decide +kernel
theorem dX8_reckon_41 : decode cX8_reckon 41 = .ok (.iload_n 1, 1) := by decide +kernel
theorem dX8_reckon_42 : decode cX8_reckon 42 = .ok (.ifCond .lt 8, 3) := by decide +kernel
theorem dX8_reckon_45 : decode cX8_reckon 45 = .ok (.iload_n 1, 1) := by decide +kernel
theorem dX8_reckon_46 : decode cX8_reckon 46 = .ok (.iconst 4, 1) := by decide +kernel
theorem dX8_reckon_47 : decode cX8_reckon 47 = .ok (.if_icmp .le 7, 3) := by decide +kernel
theorem dX8_reckon_50 : decode cX8_reckon 50 = .ok (.sipush (-1002), 3) := by decide +kernel
theorem dX8_reckon_53 : decode cX8_reckon 53 = .ok (.ireturn, 1) := by decide +kernel
theorem dX8_reckon_54 : decode cX8_reckon 54 = .ok (.aload 5, 2) := by decide +kernel
theorem dX8_reckon_56 : decode cX8_reckon 56 = .ok (.getfield 103, 3) := by decide +kernel
theorem dX8_reckon_59 : decode cX8_reckon 59 = .ok (.aload 6, 2) := by decide +kernel
theorem dX8_reckon_61 : decode cX8_reckon 61 = .ok (.getfield 103, 3) := by decide +kernel
theorem dX8_reckon_64 : decode cX8_reckon 64 = .ok (.invokestatic 117, 3) := by decide +kernel
theorem dX8_reckon_67 : decode cX8_reckon 67 = .ok (.istore 8, 2) := by decide +kernel
theorem dX8_reckon_69 : decode cX8_reckon 69 = .ok (.iload 8, 2) := by decide +kernel
theorem dX8_reckon_71 : decode cX8_reckon 71 = .ok (.iconst 1, 1) := by decide +kernel
theorem dX8_reckon_72 : decode cX8_reckon 72 = .ok (.if_icmp .gt 23, 3) := by decide +kernel
theorem dX8_reckon_75 : decode cX8_reckon 75 = .ok (.aload_n 0, 1) := by decide +kernel
theorem dX8_reckon_76 : decode cX8_reckon 76 = .ok (.iload_n 1, 1) := by decide +kernel
theorem dX8_reckon_77 : decode cX8_reckon 77 = .ok (.iload 8, 2) := by decide +kernel
theorem dX8_reckon_79 : decode cX8_reckon 79 = .ok (.aload 5, 2) := by decide +kernel
theorem dX8_reckon_81 : decode cX8_reckon 81 = .ok (.invokevirtual 123, 3) := by decide +kernel
theorem dX8_reckon_84 : decode cX8_reckon 84 = .ok (.aload 6, 2) := by decide +kernel
theorem dX8_reckon_86 : decode cX8_reckon 86 = .ok (.invokevirtual 123, 3) := by decide +kernel
theorem dX8_reckon_89 : decode cX8_reckon 89 = .ok (.aload 7, 2) := by decide +kernel
theorem dX8_reckon_91 : decode cX8_reckon 91 = .ok (.invokevirtual 127, 3) := by decide +kernel
theorem dX8_reckon_94 : decode cX8_reckon 94 = .ok (.ireturn, 1) := by decide +kernel
theorem dX8_reckon_95 : decode cX8_reckon 95 = .ok (.iload_n 1, 1) := by decide +kernel
theorem dX8_reckon_96 : decode cX8_reckon 96 = .ok (.aload 5, 2) := by decide +kernel
theorem dX8_reckon_98 : decode cX8_reckon 98 = .ok (.iload 8, 2) := by decide +kernel
theorem dX8_reckon_100 : decode cX8_reckon 100 = .ok (.invokevirtual 131, 3) := by decide +kernel
theorem dX8_reckon_103 : decode cX8_reckon 103 = .ok (.aload 6, 2) := by decide +kernel
theorem dX8_reckon_105 : decode cX8_reckon 105 = .ok (.iload 8, 2) := by decide +kernel
theorem dX8_reckon_107 : decode cX8_reckon 107 = .ok (.invokevirtual 131, 3) := by decide +kernel
theorem dX8_reckon_110 : decode cX8_reckon 110 = .ok (.invokestatic 135, 3) := by decide +kernel
theorem dX8_reckon_113 : decode cX8_reckon 113 = .ok (.ifCond .eq 9, 3) := by decide +kernel
theorem dX8_reckon_116 : decode cX8_reckon 116 = .ok (.aload_n 0, 1) := by decide +kernel
theorem dX8_reckon_117 : decode cX8_reckon 117 = .ok (.iconst 5, 1) := by decide +kernel
theorem dX8_reckon_118 : decode cX8_reckon 118 = .ok (.invokevirtual 139, 3) := by decide +kernel
theorem dX8_reckon_121 : decode cX8_reckon 121 = .ok (.ireturn, 1) := by decide +kernel
theorem dX8_reckon_122 : decode cX8_reckon 122 = .ok (.iload 8, 2) := by decide +kernel
theorem dX8_reckon_124 : decode cX8_reckon 124 = .ok (.iconst 2, 1) := by decide +kernel
theorem dX8_reckon_125 : decode cX8_reckon 125 = .ok (.if_icmp .ne 21, 3) := by decide +kernel
theorem dX8_reckon_128 : decode cX8_reckon 128 = .ok (.iload_n 1, 1) := by decide +kernel
theorem dX8_reckon_129 : decode cX8_reckon 129 = .ok (.aload 5, 2) := by decide +kernel
theorem dX8_reckon_131 : decode cX8_reckon 131 = .ok (.invokevirtual 143, 3) := by decide +kernel
theorem dX8_reckon_134 : decode cX8_reckon 134 = .ok (.aload 6, 2) := by decide +kernel
theorem dX8_reckon_136 : decode cX8_reckon 136 = .ok (.invokevirtual 143, 3) := by decide +kernel
theorem dX8_reckon_139 : decode cX8_reckon 139 = .ok (.invokestatic 147, 3) := by decide +kernel
theorem dX8_reckon_142 : decode cX8_reckon 142 = .ok (.f2d, 1) := by decide +kernel
theorem dX8_reckon_143 : decode cX8_reckon 143 = .ok (.goto 17, 3) := by decide +kernel
theorem dX8_reckon_146 : decode cX8_reckon 146 = .ok (.iload_n 1, 1) := by decide +kernel
theorem dX8_reckon_147 : decode cX8_reckon 147 = .ok (.aload 5, 2) := by decide +kernel
theorem dX8_reckon_149 : decode cX8_reckon 149 = .ok (.invokevirtual 151, 3) := by decide +kernel
theorem dX8_reckon_152 : decode cX8_reckon 152 = .ok (.aload 6, 2) := by decide +kernel
theorem dX8_reckon_154 : decode cX8_reckon 154 = .ok (.invokevirtual 151, 3) := by decide +kernel
theorem dX8_reckon_157 : decode cX8_reckon 157 = .ok (.invokestatic 155, 3) := by decide +kernel
theorem dX8_reckon_160 : decode cX8_reckon 160 = .ok (.dstore 9, 2) := by decide +kernel
theorem dX8_reckon_162 : decode cX8_reckon 162 = .ok (.aload 7, 2) := by decide +kernel
theorem dX8_reckon_164 : decode cX8_reckon 164 = .ok (.iload 8, 2) := by decide +kernel
theorem dX8_reckon_166 : decode cX8_reckon 166 = .ok (.dload 9, 2) := by decide +kernel
theorem dX8_reckon_168 : decode cX8_reckon 168 = .ok (.invokevirtual 89, 3) := by decide +kernel
theorem dX8_reckon_171 : decode cX8_reckon 171 = .ok (.aload_n 0, 1) := by decide +kernel
theorem dX8_reckon_172 : decode cX8_reckon 172 = .ok (.iload 8, 2) := by decide +kernel
theorem dX8_reckon_174 : decode cX8_reckon 174 = .ok (.invokevirtual 159, 3) := by decide +kernel
theorem dX8_reckon_177 : decode cX8_reckon 177 = .ok (.ireturn, 1) := by decide +kernel
set_option maxRecDepth 20000 in
theorem ggX8_compare_X8_meterOf : GoodIn wsX8_compare wsX8_meterOf := goodIn_r _ [10, 11, 39, 40, 41, 42, 43, 44, 45, 46, 47] (by decide +kernel) (by decide +kernel)
set_option maxRecDepth 20000 in
theorem gX8_compare_X8_meterOf : GoodIn wsX8_compare (wsV RX8 63 RX8 yX8_meterOf wsX8_meterOf) := goodIn_app (goodIn_of _ (by decide +kernel)) ggX8_compare_X8_meterOf
set_option maxRecDepth 20000 in
theorem ggX8_compare_X4_asLong : GoodIn wsX8_compare wsX4_asLong := goodIn_r _ [16, 17, 18, 19, 20, 21, 15, 22, 23, 36, 37, 38] (by decide +kernel) (by decide +kernel)
set_option maxRecDepth 20000 in
theorem gX8_compare_X4_asLong : GoodIn wsX8_compare (wsV RX8 123 RX4 yX4_asLong wsX4_asLong) := goodIn_app (goodIn_of _ (by decide +kernel)) ggX8_compare_X4_asLong
set_option maxRecDepth 20000 in
theorem ggX8_compare_X4_asReal : GoodIn wsX8_compare wsX4_asReal := goodIn_r _ [27, 28, 29, 30, 15, 31, 17, 18, 19, 20, 21, 22, 23, 32, 33, 34, 35, 36, 37, 38] (by decide +kernel) (by decide +kernel)
set_option maxRecDepth 20000 in
theorem gX8_compare_X4_asReal : GoodIn wsX8_compare (wsV RX8 131 RX4 yX4_asReal wsX4_asReal) := goodIn_app (goodIn_of _ (by decide +kernel)) ggX8_compare_X4_asReal
theorem dX8_compare_0 : decode cX8_compare 0 = .ok (.aload_n 0, 1) := by decide +kernel
theorem dX8_compare_1 : decode cX8_compare 1 = .ok (.iload_n 1, 1) := by decide +kernel
theorem dX8_compare_2 : decode cX8_compare 2 = .ok (.invokevirtual 63, 3) := by decide +kernel
theorem dX8_compare_5 : decode cX8_compare 5 = .ok (.astore_n 3, 1) := by decide +kernel
theorem dX8_compare_6 : decode cX8_compare 6 = .ok (.aload_n 0, 1) := by decide +kernel
theorem dX8_compare_7 : decode cX8_compare 7 = .ok (.iload_n 2, 1) := by decide +kernel
theorem dX8_compare_8 : decode cX8_compare 8 = .ok (.invokevirtual 63, 3) := by decide +kernel
theorem dX8_compare_11 : decode cX8_compare 11 = .ok (.astore 4, 2) := by decide +kernel
theorem dX8_compare_13 : decode cX8_compare 13 = .ok (.aload_n 3, 1) := by decide +kernel
theorem dX8_compare_14 : decode cX8_compare 14 = .ok (.ifnull 8, 3) := by decide +kernel
theorem dX8_compare_17 : decode cX8_compare 17 = .ok (.aload 4, 2) := by decide +kernel
theorem dX8_compare_19 : decode cX8_compare 19 = .ok (.ifnonnull 7, 3) := by decide +kernel
theorem dX8_compare_22 : decode cX8_compare 22 = .ok (.sipush (-1001), 3) := by decide +kernel
theorem dX8_compare_25 : decode cX8_compare 25 = .ok (.ireturn, 1) := by decide +kernel
theorem dX8_compare_26 : decode cX8_compare 26 = .ok (.aload_n 3, 1) := by decide +kernel
theorem dX8_compare_27 : decode cX8_compare 27 = .ok (.getfield 103, 3) := by decide +kernel
theorem dX8_compare_30 : decode cX8_compare 30 = .ok (.aload 4, 2) := by decide +kernel
theorem dX8_compare_32 : decode cX8_compare 32 = .ok (.getfield 103, 3) := by decide +kernel
theorem dX8_compare_35 : decode cX8_compare 35 = .ok (.invokestatic 117, 3) := by decide +kernel
theorem dX8_compare_38 : decode cX8_compare 38 = .ok (.istore 5, 2) := by decide +kernel
theorem dX8_compare_40 : decode cX8_compare 40 = .ok (.iload 5, 2) := by decide +kernel
theorem dX8_compare_42 : decode cX8_compare 42 = .ok (.iconst 1, 1) := by decide +kernel
theorem dX8_compare_43 : decode cX8_compare 43 = .ok (.if_icmp .gt 42, 3) := by decide +kernel
theorem dX8_compare_46 : decode cX8_compare 46 = .ok (.aload_n 3, 1) := by decide +kernel
theorem dX8_compare_47 : decode cX8_compare 47 = .ok (.invokevirtual 123, 3) := by decide +kernel
theorem dX8_compare_50 : decode cX8_compare 50 = .ok (.lstore 6, 2) := by decide +kernel
theorem dX8_compare_52 : decode cX8_compare 52 = .ok (.aload 4, 2) := by decide +kernel
theorem dX8_compare_54 : decode cX8_compare 54 = .ok (.invokevirtual 123, 3) := by decide +kernel
theorem dX8_compare_57 : decode cX8_compare 57 = .ok (.lstore 8, 2) := by decide +kernel
theorem dX8_compare_59 : decode cX8_compare 59 = .ok (.lload 6, 2) := by decide +kernel
theorem dX8_compare_61 : decode cX8_compare 61 = .ok (.lload 8, 2) := by decide +kernel
theorem dX8_compare_63 : decode cX8_compare 63 = .ok (.lcmp, 1) := by decide +kernel
theorem dX8_compare_64 : decode cX8_compare 64 = .ok (.ifCond .ge 7, 3) := by decide +kernel
theorem dX8_compare_67 : decode cX8_compare 67 = .ok (.iconst (-1), 1) := by decide +kernel
theorem dX8_compare_68 : decode cX8_compare 68 = .ok (.goto 16, 3) := by decide +kernel
theorem dX8_compare_71 : decode cX8_compare 71 = .ok (.lload 6, 2) := by decide +kernel
theorem dX8_compare_73 : decode cX8_compare 73 = .ok (.lload 8, 2) := by decide +kernel
theorem dX8_compare_75 : decode cX8_compare 75 = .ok (.lcmp, 1) := by decide +kernel
theorem dX8_compare_76 : decode cX8_compare 76 = .ok (.ifCond .le 7, 3) := by decide +kernel
theorem dX8_compare_79 : decode cX8_compare 79 = .ok (.iconst 1, 1) := by decide +kernel
theorem dX8_compare_80 : decode cX8_compare 80 = .ok (.goto 4, 3) := by decide +kernel
theorem dX8_compare_83 : decode cX8_compare 83 = .ok (.iconst 0, 1) := by decide +kernel
theorem dX8_compare_84 : decode cX8_compare 84 = .ok (.ireturn, 1) := by decide +kernel
theorem dX8_compare_85 : decode cX8_compare 85 = .ok (.aload_n 3, 1) := by decide +kernel
theorem dX8_compare_86 : decode cX8_compare 86 = .ok (.iload 5, 2) := by decide +kernel
theorem dX8_compare_88 : decode cX8_compare 88 = .ok (.invokevirtual 131, 3) := by decide +kernel
theorem dX8_compare_91 : decode cX8_compare 91 = .ok (.dstore 6, 2) := by decide +kernel
theorem dX8_compare_93 : decode cX8_compare 93 = .ok (.aload 4, 2) := by decide +kernel
theorem dX8_compare_95 : decode cX8_compare 95 = .ok (.iload 5, 2) := by decide +kernel
theorem dX8_compare_97 : decode cX8_compare 97 = .ok (.invokevirtual 131, 3) := by decide +kernel
theorem dX8_compare_100 : decode cX8_compare 100 = .ok (.dstore 8, 2) := by decide +kernel
theorem dX8_compare_102 : decode cX8_compare 102 = .ok (.dload 6, 2) := by decide +kernel
theorem dX8_compare_104 : decode cX8_compare 104 = .ok (.dload 8, 2) := by decide +kernel
theorem dX8_compare_106 : decode cX8_compare 106 = .ok (.dcmp .g, 1) := by decide +kernel
theorem dX8_compare_107 : decode cX8_compare 107 = .ok (.ifCond .ge 7, 3) := by decide +kernel
theorem dX8_compare_110 : decode cX8_compare 110 = .ok (.iconst (-1), 1) := by decide +kernel
theorem dX8_compare_111 : decode cX8_compare 111 = .ok (.goto 16, 3) := by decide +kernel
theorem dX8_compare_114 : decode cX8_compare 114 = .ok (.dload 6, 2) := by decide +kernel
theorem dX8_compare_116 : decode cX8_compare 116 = .ok (.dload 8, 2) := by decide +kernel
theorem dX8_compare_118 : decode cX8_compare 118 = .ok (.dcmp .l, 1) := by decide +kernel
theorem dX8_compare_119 : decode cX8_compare 119 = .ok (.ifCond .le 7, 3) := by decide +kernel
theorem dX8_compare_122 : decode cX8_compare 122 = .ok (.iconst 1, 1) := by decide +kernel
theorem dX8_compare_123 : decode cX8_compare 123 = .ok (.goto 4, 3) := by decide +kernel
theorem dX8_compare_126 : decode cX8_compare 126 = .ok (.iconst 0, 1) := by decide +kernel
theorem dX8_compare_127 : decode cX8_compare 127 = .ok (.ireturn, 1) := by decide +kernel
set_option maxRecDepth 20000 in
theorem ggX8_drum_X8_drumOf : GoodIn wsX8_drum wsX8_drumOf := goodIn_r _ [12, 13, 59, 60, 61, 62, 63, 64, 65, 66, 67] (by decide +kernel) (by decide +kernel)
set_option maxRecDepth 20000 in
theorem gX8_drum_X8_drumOf : GoodIn wsX8_drum (wsV RX8 162 RX8 yX8_drumOf wsX8_drumOf) := goodIn_app (goodIn_of _ (by decide +kernel)) ggX8_drum_X8_drumOf
set_option maxRecDepth 20000 in
theorem ggX8_drum_X2_isNumber : GoodIn wsX8_drum wsX2_isNumber := goodIn_r _ [18, 19, 20, 21, 17, 22, 23, 24, 25, 26, 27, 28, 29] (by decide +kernel) (by decide +kernel)
set_option maxRecDepth 20000 in
theorem gX8_drum_X2_isNumber : GoodIn wsX8_drum (wsV RX8 79 RX2 yX2_isNumber wsX2_isNumber) := goodIn_app (goodIn_of _ (by decide +kernel)) ggX8_drum_X2_isNumber
set_option maxRecDepth 20000 in
theorem ggX8_drum_X2_numberOf : GoodIn wsX8_drum wsX2_numberOf := goodIn_r _ [33, 34, 23, 19, 20, 21, 17, 22, 24, 25, 26, 27, 28, 29, 35, 36, 37, 38, 39, 40, 41, 42, 43, 44, 45, 46, 47, 48, 11, 49, 50, 51, 52, 53, 54] (by decide +kernel) (by decide +kernel)
set_option maxRecDepth 20000 in
theorem gX8_drum_X2_numberOf : GoodIn wsX8_drum (wsV RX8 85 RX2 yX2_numberOf wsX2_numberOf) := goodIn_app (goodIn_of _ (by decide +kernel)) ggX8_drum_X2_numberOf
theorem dX8_drum_0 : decode cX8_drum 0 = .ok (.aload_n 0, 1) := by decide +kernel
theorem dX8_drum_1 : decode cX8_drum 1 = .ok (.iload_n 1, 1) := by decide +kernel
theorem dX8_drum_2 : decode cX8_drum 2 = .ok (.invokevirtual 162, 3) := by decide +kernel
theorem dX8_drum_5 : decode cX8_drum 5 = .ok (.astore 4, 2) := by decide +kernel
theorem dX8_drum_7 : decode cX8_drum 7 = .ok (.aload 4, 2) := by decide +kernel
theorem dX8_drum_9 : decode cX8_drum 9 = .ok (.ifnonnull 7, 3) := by decide +kernel
theorem dX8_drum_12 : decode cX8_drum 12 = .ok (.sipush (-1001), 3) := by decide +kernel
theorem dX8_drum_15 : decode cX8_drum 15 = .ok (.ireturn, 1) := by decide +kernel
theorem dX8_drum_16 : decode cX8_drum 16 = .ok (.getstatic 166, 3) := by decide +kernel
theorem dX8_drum_19 : decode cX8_drum 19 = .ok (.lload_n 2, 1) := by decide +kernel
theorem dX8_drum_20 : decode cX8_drum 20 = .ok (.invokevirtual 79, 3) := by decide +kernel
theorem dX8_drum_23 : decode cX8_drum 23 = .ok (.ifCond .ne 7, 3) := by decide +kernel
theorem dX8_drum_26 : decode cX8_drum 26 = .ok (.sipush (-1002), 3) := by decide +kernel
theorem dX8_drum_29 : decode cX8_drum 29 = .ok (.ireturn, 1) := by decide +kernel
theorem dX8_drum_30 : decode cX8_drum 30 = .ok (.getstatic 166, 3) := by decide +kernel
theorem dX8_drum_33 : decode cX8_drum 33 = .ok (.lload_n 2, 1) := by decide +kernel
theorem dX8_drum_34 : decode cX8_drum 34 = .ok (.invokevirtual 85, 3) := by decide +kernel
theorem dX8_drum_37 : decode cX8_drum 37 = .ok (.dstore 5, 2) := by decide +kernel
theorem dX8_drum_39 : decode cX8_drum 39 = .ok (.dload 5, 2) := by decide +kernel
theorem dX8_drum_41 : decode cX8_drum 41 = .ok (.ldc2_w 170, 3) := by decide +kernel
theorem dX8_drum_44 : decode cX8_drum 44 = .ok (.dcmp .g, 1) := by decide +kernel
theorem dX8_drum_45 : decode cX8_drum 45 = .ok (.ifCond .lt 12, 3) := by decide +kernel
theorem dX8_drum_48 : decode cX8_drum 48 = .ok (.dload 5, 2) := by decide +kernel
theorem dX8_drum_50 : decode cX8_drum 50 = .ok (.ldc2_w 172, 3) := by decide +kernel
theorem dX8_drum_53 : decode cX8_drum 53 = .ok (.dcmp .l, 1) := by decide +kernel
theorem dX8_drum_54 : decode cX8_drum 54 = .ok (.ifCond .le 7, 3) := by decide +kernel
theorem dX8_drum_57 : decode cX8_drum 57 = .ok (.sipush (-1002), 3) := by decide +kernel
theorem dX8_drum_60 : decode cX8_drum 60 = .ok (.ireturn, 1) := by decide +kernel
theorem dX8_drum_61 : decode cX8_drum 61 = .ok (.aload 4, 2) := by decide +kernel
theorem dX8_drum_63 : decode cX8_drum 63 = .ok (.dload 5, 2) := by decide +kernel
theorem dX8_drum_65 : decode cX8_drum 65 = .ok (.putfield 174, 3) := by decide +kernel
theorem dX8_drum_68 : decode cX8_drum 68 = .ok (.aload 4, 2) := by decide +kernel
theorem dX8_drum_70 : decode cX8_drum 70 = .ok (.dconst 0, 1) := by decide +kernel
theorem dX8_drum_71 : decode cX8_drum 71 = .ok (.putfield 177, 3) := by decide +kernel
theorem dX8_drum_74 : decode cX8_drum 74 = .ok (.aload 4, 2) := by decide +kernel
theorem dX8_drum_76 : decode cX8_drum 76 = .ok (.dconst 0, 1) := by decide +kernel
theorem dX8_drum_77 : decode cX8_drum 77 = .ok (.putfield 180, 3) := by decide +kernel
theorem dX8_drum_80 : decode cX8_drum 80 = .ok (.aload 4, 2) := by decide +kernel
theorem dX8_drum_82 : decode cX8_drum 82 = .ok (.lconst 0, 1) := by decide +kernel
theorem dX8_drum_83 : decode cX8_drum 83 = .ok (.putfield 183, 3) := by decide +kernel
theorem dX8_drum_86 : decode cX8_drum 86 = .ok (.iconst 1, 1) := by decide +kernel
theorem dX8_drum_87 : decode cX8_drum 87 = .ok (.ireturn, 1) := by decide +kernel
set_option maxRecDepth 20000 in
theorem ggX8_wind_X8_drumOf : GoodIn wsX8_wind wsX8_drumOf := goodIn_r _ [9, 10, 86, 87, 88, 89, 90, 91, 92, 93, 94] (by decide +kernel) (by decide +kernel)
set_option maxRecDepth 20000 in
theorem gX8_wind_X8_drumOf : GoodIn wsX8_wind (wsV RX8 162 RX8 yX8_drumOf wsX8_drumOf) := goodIn_app (goodIn_of _ (by decide +kernel)) ggX8_wind_X8_drumOf
set_option maxRecDepth 20000 in
theorem ggX8_wind_X8_meterOf : GoodIn wsX8_wind wsX8_meterOf := goodIn_r _ [14, 15, 86, 87, 88, 89, 90, 91, 92, 93, 94] (by decide +kernel) (by decide +kernel)
set_option maxRecDepth 20000 in
theorem gX8_wind_X8_meterOf : GoodIn wsX8_wind (wsV RX8 63 RX8 yX8_meterOf wsX8_meterOf) := goodIn_app (goodIn_of _ (by decide +kernel)) ggX8_wind_X8_meterOf
set_option maxRecDepth 20000 in
theorem ggX8_wind_X4_asDouble : GoodIn wsX8_wind wsX4_asDouble := goodIn_r _ [20, 21, 22, 23, 24, 25, 19, 26, 27, 95, 96, 97] (by decide +kernel) (by decide +kernel)
set_option maxRecDepth 20000 in
theorem gX8_wind_X4_asDouble : GoodIn wsX8_wind (wsV RX8 151 RX4 yX4_asDouble wsX4_asDouble) := goodIn_app (goodIn_of _ (by decide +kernel)) ggX8_wind_X4_asDouble
set_option maxRecDepth 20000 in
theorem ggX8_wind_X8_isEndless : GoodIn wsX8_wind wsX8_isEndless := goodIn_r _ [30, 31] (by decide +kernel) (by decide +kernel)
set_option maxRecDepth 20000 in
theorem gX8_wind_X8_isEndless : GoodIn wsX8_wind (va_wsS RX8 186 yX8_isEndless wsX8_isEndless) := goodIn_app (goodIn_of _ (by decide +kernel)) ggX8_wind_X8_isEndless
set_option maxRecDepth 20000 in
theorem ggX8_wind_X8_fail : GoodIn wsX8_wind wsX8_fail := goodIn_r _ [35, 36, 37, 86, 87, 88, 89, 90, 91, 92, 93, 94] (by decide +kernel) (by decide +kernel)
set_option maxRecDepth 20000 in
theorem gX8_wind_X8_fail : GoodIn wsX8_wind (wsV RX8 139 RX8 yX8_fail wsX8_fail) := goodIn_app (goodIn_of _ (by decide +kernel)) ggX8_wind_X8_fail
set_option maxRecDepth 20000 in
theorem ggX8_wind_X8_leftOf : GoodIn wsX8_wind wsX8_leftOf := goodIn_r _ [40, 41, 42, 43, 44, 45, 28, 29, 8, 30, 31, 46, 47, 48, 49, 50, 51, 52, 53, 54, 55, 56, 57, 58, 59, 60, 61, 62, 63, 64, 65, 66, 67, 68, 69, 70, 71, 72, 73, 74, 75, 76, 77] (by decide +kernel) (by decide +kernel)
set_option maxRecDepth 20000 in
theorem gX8_wind_X8_leftOf : GoodIn wsX8_wind (va_wsS RX8 190 yX8_leftOf wsX8_leftOf) := goodIn_app (goodIn_of _ (by decide +kernel)) ggX8_wind_X8_leftOf
set_option maxRecDepth 20000 in
theorem ggX8_wind_X8_succeed : GoodIn wsX8_wind wsX8_succeed := goodIn_r _ [81, 37, 86, 87, 88, 89, 90, 91, 92, 93, 94] (by decide +kernel) (by decide +kernel)
set_option maxRecDepth 20000 in
theorem gX8_wind_X8_succeed : GoodIn wsX8_wind (wsV RX8 159 RX8 yX8_succeed wsX8_succeed) := goodIn_app (goodIn_of _ (by decide +kernel)) ggX8_wind_X8_succeed
theorem dX8_wind_0 : decode cX8_wind 0 = .ok (.aload_n 0, 1) := by decide +kernel
theorem dX8_wind_1 : decode cX8_wind 1 = .ok (.iload_n 1, 1) := by decide +kernel
theorem dX8_wind_2 : decode cX8_wind 2 = .ok (.invokevirtual 162, 3) := by decide +kernel
theorem dX8_wind_5 : decode cX8_wind 5 = .ok (.astore_n 3, 1) := by decide +kernel
theorem dX8_wind_6 : decode cX8_wind 6 = .ok (.aload_n 0, 1) := by decide +kernel
theorem dX8_wind_7 : decode cX8_wind 7 = .ok (.iload_n 2, 1) := by decide +kernel
theorem dX8_wind_8 : decode cX8_wind 8 = .ok (.invokevirtual 63, 3) := by decide +kernel
theorem dX8_wind_11 : decode cX8_wind 11 = .ok (.astore 4, 2) := by decide +kernel
theorem dX8_wind_13 : decode cX8_wind 13 = .ok (.aload_n 3, 1) := by decide +kernel
theorem dX8_wind_14 : decode cX8_wind 14 = .ok (.ifnull 8, 3) := by decide +kernel
theorem dX8_wind_17 : decode cX8_wind 17 = .ok (.aload 4, 2) := by decide +kernel
theorem dX8_wind_19 : decode cX8_wind 19 = .ok (.ifnonnull 7, 3) := by decide +kernel
theorem dX8_wind_22 : decode cX8_wind 22 = .ok (.sipush (-1001), 3) := by decide +kernel
theorem dX8_wind_25 : decode cX8_wind 25 = .ok (.ireturn, 1) := by decide +kernel
theorem dX8_wind_26 : decode cX8_wind 26 = .ok (.aload 4, 2) := by decide +kernel
theorem dX8_wind_28 : decode cX8_wind 28 = .ok (.invokevirtual 151, 3) := by decide +kernel
theorem dX8_wind_31 : decode cX8_wind 31 = .ok (.dstore 5, 2) := by decide +kernel
theorem dX8_wind_33 : decode cX8_wind 33 = .ok (.dload 5, 2) := by decide +kernel
theorem dX8_wind_35 : decode cX8_wind 35 = .ok (.invokestatic 186, 3) := by decide +kernel
theorem dX8_wind_38 : decode cX8_wind 38 = .ok (.ifCond .eq 9, 3) := by decide +kernel
theorem dX8_wind_41 : decode cX8_wind 41 = .ok (.aload_n 0, 1) := by decide +kernel
theorem dX8_wind_42 : decode cX8_wind 42 = .ok (.iconst 5, 1) := by decide +kernel
theorem dX8_wind_43 : decode cX8_wind 43 = .ok (.invokevirtual 139, 3) := by decide +kernel
theorem dX8_wind_46 : decode cX8_wind 46 = .ok (.ireturn, 1) := by decide +kernel
theorem dX8_wind_47 : decode cX8_wind 47 = .ok (.aload_n 3, 1) := by decide +kernel
theorem dX8_wind_48 : decode cX8_wind 48 = .ok (.getfield 177, 3) := by decide +kernel
theorem dX8_wind_51 : decode cX8_wind 51 = .ok (.dload 5, 2) := by decide +kernel
theorem dX8_wind_53 : decode cX8_wind 53 = .ok (.dadd, 1) := by decide +kernel
theorem dX8_wind_54 : decode cX8_wind 54 = .ok (.dstore 7, 2) := by decide +kernel
theorem dX8_wind_56 : decode cX8_wind 56 = .ok (.aload_n 3, 1) := by decide +kernel
theorem dX8_wind_57 : decode cX8_wind 57 = .ok (.dup, 1) := by decide +kernel
theorem dX8_wind_58 : decode cX8_wind 58 = .ok (.getfield 183, 3) := by decide +kernel
theorem dX8_wind_61 : decode cX8_wind 61 = .ok (.dload 7, 2) := by decide +kernel
theorem dX8_wind_63 : decode cX8_wind 63 = .ok (.aload_n 3, 1) := by decide +kernel
theorem dX8_wind_64 : decode cX8_wind 64 = .ok (.getfield 174, 3) := by decide +kernel
theorem dX8_wind_67 : decode cX8_wind 67 = .ok (.ddiv, 1) := by decide +kernel
theorem dX8_wind_68 : decode cX8_wind 68 = .ok (.d2l, 1) := by decide +kernel
theorem dX8_wind_69 : decode cX8_wind 69 = .ok (.ladd, 1) := by decide +kernel
theorem dX8_wind_70 : decode cX8_wind 70 = .ok (.putfield 183, 3) := by decide +kernel
theorem dX8_wind_73 : decode cX8_wind 73 = .ok (.aload_n 3, 1) := by decide +kernel
theorem dX8_wind_74 : decode cX8_wind 74 = .ok (.dload 7, 2) := by decide +kernel
theorem dX8_wind_76 : decode cX8_wind 76 = .ok (.aload_n 3, 1) := by decide +kernel
theorem dX8_wind_77 : decode cX8_wind 77 = .ok (.getfield 174, 3) := by decide +kernel
theorem dX8_wind_80 : decode cX8_wind 80 = .ok (.invokestatic 190, 3) := by decide +kernel
theorem dX8_wind_83 : decode cX8_wind 83 = .ok (.putfield 177, 3) := by decide +kernel
theorem dX8_wind_86 : decode cX8_wind 86 = .ok (.aload_n 3, 1) := by decide +kernel
theorem dX8_wind_87 : decode cX8_wind 87 = .ok (.aload_n 3, 1) := by decide +kernel
theorem dX8_wind_88 : decode cX8_wind 88 = .ok (.getfield 180, 3) := by decide +kernel
theorem dX8_wind_91 : decode cX8_wind 91 = .ok (.dload 5, 2) := by decide +kernel
theorem dX8_wind_93 : decode cX8_wind 93 = .ok (.dadd, 1) := by decide +kernel
theorem dX8_wind_94 : decode cX8_wind 94 = .ok (.putfield 180, 3) := by decide +kernel
theorem dX8_wind_97 : decode cX8_wind 97 = .ok (.aload_n 0, 1) := by decide +kernel
theorem dX8_wind_98 : decode cX8_wind 98 = .ok (.iconst 1, 1) := by decide +kernel
theorem dX8_wind_99 : decode cX8_wind 99 = .ok (.invokevirtual 159, 3) := by decide +kernel
theorem dX8_wind_102 : decode cX8_wind 102 = .ok (.ireturn, 1) := by decide +kernel
set_option maxRecDepth 20000 in
theorem ggX8_told_X8_drumOf : GoodIn wsX8_told wsX8_drumOf := goodIn_r _ [12, 13, 48, 49, 50, 51, 52, 53, 54, 55, 56] (by decide +kernel) (by decide +kernel)
set_option maxRecDepth 20000 in
theorem gX8_told_X8_drumOf : GoodIn wsX8_told (wsV RX8 162 RX8 yX8_drumOf wsX8_drumOf) := goodIn_app (goodIn_of _ (by decide +kernel)) ggX8_told_X8_drumOf
set_option maxRecDepth 20000 in
theorem ggX8_told_X2_bitsOf : GoodIn wsX8_told wsX2_bitsOf := goodIn_r _ [18, 19, 20, 21, 22, 23, 17, 24, 25, 26, 27, 28, 11, 29, 30, 31, 32, 33, 34, 35, 36, 37, 38, 39, 40, 41, 42, 43] (by decide +kernel) (by decide +kernel)
set_option maxRecDepth 20000 in
theorem gX8_told_X2_bitsOf : GoodIn wsX8_told (wsV RX8 110 RX2 yX2_bitsOf wsX2_bitsOf) := goodIn_app (goodIn_of _ (by decide +kernel)) ggX8_told_X2_bitsOf
theorem dX8_told_0 : decode cX8_told 0 = .ok (.aload_n 0, 1) := by decide +kernel
theorem dX8_told_1 : decode cX8_told 1 = .ok (.iload_n 1, 1) := by decide +kernel
theorem dX8_told_2 : decode cX8_told 2 = .ok (.invokevirtual 162, 3) := by decide +kernel
theorem dX8_told_5 : decode cX8_told 5 = .ok (.astore_n 3, 1) := by decide +kernel
theorem dX8_told_6 : decode cX8_told 6 = .ok (.aload_n 3, 1) := by decide +kernel
theorem dX8_told_7 : decode cX8_told 7 = .ok (.ifnonnull 7, 3) := by decide +kernel
theorem dX8_told_10 : decode cX8_told 10 = .ok (.ldc2_w 93, 3) := by decide +kernel
theorem dX8_told_13 : decode cX8_told 13 = .ok (.lreturn, 1) := by decide +kernel
theorem dX8_told_14 : decode cX8_told 14 = .ok (.iload_n 2, 1) := by decide +kernel
theorem dX8_told_15 : decode cX8_told 15 = .ok (.tableswitch 67 0 3 #[29, 40, 51, 62], 29) := by decide +kernel
theorem dX8_told_44 : decode cX8_told 44 = .ok (.getstatic 166, 3) := by decide +kernel
theorem dX8_told_47 : decode cX8_told 47 = .ok (.aload_n 3, 1) := by decide +kernel
theorem dX8_told_48 : decode cX8_told 48 = .ok (.getfield 174, 3) := by decide +kernel
theorem dX8_told_51 : decode cX8_told 51 = .ok (.invokevirtual 110, 3) := by decide +kernel
theorem dX8_told_54 : decode cX8_told 54 = .ok (.lreturn, 1) := by decide +kernel
theorem dX8_told_55 : decode cX8_told 55 = .ok (.getstatic 166, 3) := by decide +kernel
theorem dX8_told_58 : decode cX8_told 58 = .ok (.aload_n 3, 1) := by decide +kernel
theorem dX8_told_59 : decode cX8_told 59 = .ok (.getfield 177, 3) := by decide +kernel
theorem dX8_told_62 : decode cX8_told 62 = .ok (.invokevirtual 110, 3) := by decide +kernel
theorem dX8_told_65 : decode cX8_told 65 = .ok (.lreturn, 1) := by decide +kernel
theorem dX8_told_66 : decode cX8_told 66 = .ok (.getstatic 166, 3) := by decide +kernel
theorem dX8_told_69 : decode cX8_told 69 = .ok (.aload_n 3, 1) := by decide +kernel
theorem dX8_told_70 : decode cX8_told 70 = .ok (.getfield 180, 3) := by decide +kernel
theorem dX8_told_73 : decode cX8_told 73 = .ok (.invokevirtual 110, 3) := by decide +kernel
theorem dX8_told_76 : decode cX8_told 76 = .ok (.lreturn, 1) := by decide +kernel
theorem dX8_told_77 : decode cX8_told 77 = .ok (.aload_n 3, 1) := by decide +kernel
theorem dX8_told_78 : decode cX8_told 78 = .ok (.getfield 183, 3) := by decide +kernel
theorem dX8_told_81 : decode cX8_told 81 = .ok (.lreturn, 1) := by decide +kernel
theorem dX8_told_82 : decode cX8_told 82 = .ok (.ldc2_w 194, 3) := by decide +kernel
theorem dX8_told_85 : decode cX8_told 85 = .ok (.lreturn, 1) := by decide +kernel
set_option maxRecDepth 20000 in
theorem ggX8_log_X8_logOf : GoodIn wsX8_log wsX8_logOf := goodIn_r _ [8, 9, 20, 21, 22, 23, 24, 25, 26, 27, 28] (by decide +kernel) (by decide +kernel)
set_option maxRecDepth 20000 in
theorem gX8_log_X8_logOf : GoodIn wsX8_log (wsV RX8 196 RX8 yX8_logOf wsX8_logOf) := goodIn_app (goodIn_of _ (by decide +kernel)) ggX8_log_X8_logOf
set_option maxRecDepth 20000 in
theorem ggX8_log_J7_fill_7f8df : GoodIn wsX8_log wsJ7_fill_7f8df := goodIn_r _ [13] (by decide +kernel) (by decide +kernel)
set_option maxRecDepth 20000 in
theorem gX8_log_J7_fill_7f8df : GoodIn wsX8_log (va_wsS RX8 204 yJ7_fill_7f8df wsJ7_fill_7f8df) := goodIn_app (goodIn_of _ (by decide +kernel)) ggX8_log_J7_fill_7f8df
theorem dX8_log_0 : decode cX8_log 0 = .ok (.aload_n 0, 1) := by decide +kernel
theorem dX8_log_1 : decode cX8_log 1 = .ok (.iload_n 1, 1) := by decide +kernel
theorem dX8_log_2 : decode cX8_log 2 = .ok (.invokevirtual 196, 3) := by decide +kernel
theorem dX8_log_5 : decode cX8_log 5 = .ok (.astore_n 3, 1) := by decide +kernel
theorem dX8_log_6 : decode cX8_log 6 = .ok (.aload_n 3, 1) := by decide +kernel
theorem dX8_log_7 : decode cX8_log 7 = .ok (.ifnonnull 7, 3) := by decide +kernel
theorem dX8_log_10 : decode cX8_log 10 = .ok (.sipush (-1001), 3) := by decide +kernel
theorem dX8_log_13 : decode cX8_log 13 = .ok (.ireturn, 1) := by decide +kernel
theorem dX8_log_14 : decode cX8_log 14 = .ok (.iload_n 2, 1) := by decide +kernel
theorem dX8_log_15 : decode cX8_log 15 = .ok (.iconst (-1), 1) := by decide +kernel
theorem dX8_log_16 : decode cX8_log 16 = .ok (.if_icmp .lt 9, 3) := by decide +kernel
theorem dX8_log_19 : decode cX8_log 19 = .ok (.iload_n 2, 1) := by decide +kernel
theorem dX8_log_20 : decode cX8_log 20 = .ok (.bipush 16, 2) := by decide +kernel
theorem dX8_log_22 : decode cX8_log 22 = .ok (.if_icmp .le 7, 3) := by decide +kernel
theorem dX8_log_25 : decode cX8_log 25 = .ok (.sipush (-1002), 3) := by decide +kernel
theorem dX8_log_28 : decode cX8_log 28 = .ok (.ireturn, 1) := by decide +kernel
theorem dX8_log_29 : decode cX8_log 29 = .ok (.aload_n 3, 1) := by decide +kernel
theorem dX8_log_30 : decode cX8_log 30 = .ok (.getfield 200, 3) := by decide +kernel
theorem dX8_log_33 : decode cX8_log 33 = .ok (.dconst 0, 1) := by decide +kernel
theorem dX8_log_34 : decode cX8_log 34 = .ok (.invokestatic 204, 3) := by decide +kernel
theorem dX8_log_37 : decode cX8_log 37 = .ok (.aload_n 3, 1) := by decide +kernel
theorem dX8_log_38 : decode cX8_log 38 = .ok (.iload_n 2, 1) := by decide +kernel
theorem dX8_log_39 : decode cX8_log 39 = .ok (.putfield 210, 3) := by decide +kernel
theorem dX8_log_42 : decode cX8_log 42 = .ok (.iconst 1, 1) := by decide +kernel
theorem dX8_log_43 : decode cX8_log 43 = .ok (.ireturn, 1) := by decide +kernel
set_option maxRecDepth 20000 in
theorem ggX8_write_X8_logOf : GoodIn wsX8_write wsX8_logOf := goodIn_r _ [7, 8, 54, 55, 56, 57, 58, 59, 60, 61, 62] (by decide +kernel) (by decide +kernel)
set_option maxRecDepth 20000 in
theorem gX8_write_X8_logOf : GoodIn wsX8_write (wsV RX8 196 RX8 yX8_logOf wsX8_logOf) := goodIn_app (goodIn_of _ (by decide +kernel)) ggX8_write_X8_logOf
set_option maxRecDepth 20000 in
theorem ggX8_write_X8_meterOf : GoodIn wsX8_write wsX8_meterOf := goodIn_r _ [12, 13, 54, 55, 56, 57, 58, 59, 60, 61, 62] (by decide +kernel) (by decide +kernel)
set_option maxRecDepth 20000 in
theorem gX8_write_X8_meterOf : GoodIn wsX8_write (wsV RX8 63 RX8 yX8_meterOf wsX8_meterOf) := goodIn_app (goodIn_of _ (by decide +kernel)) ggX8_write_X8_meterOf
set_option maxRecDepth 20000 in
theorem ggX8_write_X5_lackAt : GoodIn wsX8_write wsX5_lackAt := goodIn_r _ [19, 20, 51, 52, 53, 63, 64, 65] (by decide +kernel) (by decide +kernel)
set_option maxRecDepth 20000 in
theorem gX8_write_X5_lackAt_u213X3 : GoodIn wsX8_write (va_wsU RX8 213 RX3 "RopeDrums$Places" ⟨"RopeDrums$Log", "lackAt", "(I)I"⟩ yX5_lackAt wsX5_lackAt) := goodIn_app (goodIn_of _ (by decide +kernel)) ggX8_write_X5_lackAt
set_option maxRecDepth 20000 in
theorem ggX8_write_X8_fail : GoodIn wsX8_write wsX8_fail := goodIn_r _ [24, 25, 26, 54, 55, 56, 57, 58, 59, 60, 61, 62] (by decide +kernel) (by decide +kernel)
set_option maxRecDepth 20000 in
theorem gX8_write_X8_fail : GoodIn wsX8_write (wsV RX8 139 RX8 yX8_fail wsX8_fail) := goodIn_app (goodIn_of _ (by decide +kernel)) ggX8_write_X8_fail
set_option maxRecDepth 20000 in
theorem ggX8_write_X4_asReal : GoodIn wsX8_write wsX4_asReal := goodIn_r _ [31, 32, 33, 34, 30, 35, 36, 37, 38, 39, 40, 41, 42, 43, 44, 45, 46, 66, 67, 68] (by decide +kernel) (by decide +kernel)
set_option maxRecDepth 20000 in
theorem gX8_write_X4_asReal : GoodIn wsX8_write (wsV RX8 131 RX4 yX4_asReal wsX4_asReal) := goodIn_app (goodIn_of _ (by decide +kernel)) ggX8_write_X4_asReal
set_option maxRecDepth 20000 in
theorem ggX8_write_X8_succeed : GoodIn wsX8_write wsX8_succeed := goodIn_r _ [50, 26, 54, 55, 56, 57, 58, 59, 60, 61, 62] (by decide +kernel) (by decide +kernel)
set_option maxRecDepth 20000 in
theorem gX8_write_X8_succeed : GoodIn wsX8_write (wsV RX8 159 RX8 yX8_succeed wsX8_succeed) := goodIn_app (goodIn_of _ (by decide +kernel)) ggX8_write_X8_succeed
theorem dX8_write_0 : decode cX8_write 0 = .ok (.aload_n 0, 1) := by decide +kernel
theorem dX8_write_1 : decode cX8_write 1 = .ok (.iload_n 1, 1) := by decide +kernel
theorem dX8_write_2 : decode cX8_write 2 = .ok (.invokevirtual 196, 3) := by decide +kernel
theorem dX8_write_5 : decode cX8_write 5 = .ok (.astore 4, 2) := by decide +kernel
theorem dX8_write_7 : decode cX8_write 7 = .ok (.aload_n 0, 1) := by decide +kernel
theorem dX8_write_8 : decode cX8_write 8 = .ok (.iload_n 3, 1) := by decide +kernel
theorem dX8_write_9 : decode cX8_write 9 = .ok (.invokevirtual 63, 3) := by decide +kernel
theorem dX8_write_12 : decode cX8_write 12 = .ok (.astore 5, 2) := by decide +kernel
theorem dX8_write_14 : decode cX8_write 14 = .ok (.aload 4, 2) := by decide +kernel
theorem dX8_write_16 : decode cX8_write 16 = .ok (.ifnull 8, 3) := by decide +kernel
theorem dX8_write_19 : decode cX8_write 19 = .ok (.aload 5, 2) := by decide +kernel
theorem dX8_write_21 : decode cX8_write 21 = .ok (.ifnonnull 7, 3) := by decide +kernel
theorem dX8_write_24 : decode cX8_write 24 = .ok (.sipush (-1001), 3) := by decide +kernel
theorem dX8_write_27 : decode cX8_write 27 = .ok (.ireturn, 1) := by decide +kernel
theorem dX8_write_28 : decode cX8_write 28 = .ok (.aload 4, 2) := by decide +kernel
theorem dX8_write_30 : decode cX8_write 30 = .ok (.iload_n 2, 1) := by decide +kernel
theorem dX8_write_31 : decode cX8_write 31 = .ok (.invokevirtual 213, 3) := by decide +kernel
theorem dX8_write_34 : decode cX8_write 34 = .ok (.istore 6, 2) := by decide +kernel
theorem dX8_write_36 : decode cX8_write 36 = .ok (.iload 6, 2) := by decide +kernel
theorem dX8_write_38 : decode cX8_write 38 = .ok (.ifCond .eq 10, 3) := by decide +kernel
theorem dX8_write_41 : decode cX8_write 41 = .ok (.aload_n 0, 1) := by decide +kernel
theorem dX8_write_42 : decode cX8_write 42 = .ok (.iload 6, 2) := by decide +kernel
theorem dX8_write_44 : decode cX8_write 44 = .ok (.invokevirtual 139, 3) := by decide +kernel
theorem dX8_write_47 : decode cX8_write 47 = .ok (.ireturn, 1) := by decide +kernel
theorem dX8_write_48 : decode cX8_write 48 = .ok (.aload 4, 2) := by decide +kernel
theorem dX8_write_50 : decode cX8_write 50 = .ok (.getfield 200, 3) := by decide +kernel
theorem dX8_write_53 : decode cX8_write 53 = .ok (.iload_n 2, 1) := by decide +kernel
theorem dX8_write_54 : decode cX8_write 54 = .ok (.aload 5, 2) := by decide +kernel
theorem dX8_write_56 : decode cX8_write 56 = .ok (.aload 4, 2) := by decide +kernel
theorem dX8_write_58 : decode cX8_write 58 = .ok (.getfield 216, 3) := by decide +kernel
theorem dX8_write_61 : decode cX8_write 61 = .ok (.invokevirtual 131, 3) := by decide +kernel
theorem dX8_write_64 : decode cX8_write 64 = .ok (.dastore, 1) := by decide +kernel
theorem dX8_write_65 : decode cX8_write 65 = .ok (.aload_n 0, 1) := by decide +kernel
theorem dX8_write_66 : decode cX8_write 66 = .ok (.iconst 1, 1) := by decide +kernel
theorem dX8_write_67 : decode cX8_write 67 = .ok (.invokevirtual 159, 3) := by decide +kernel
theorem dX8_write_70 : decode cX8_write 70 = .ok (.ireturn, 1) := by decide +kernel
set_option maxRecDepth 20000 in
theorem ggX8_read_X8_logOf : GoodIn wsX8_read wsX8_logOf := goodIn_r _ [7, 8, 41, 42, 43, 44, 45, 46, 47, 48, 49] (by decide +kernel) (by decide +kernel)
set_option maxRecDepth 20000 in
theorem gX8_read_X8_logOf : GoodIn wsX8_read (wsV RX8 196 RX8 yX8_logOf wsX8_logOf) := goodIn_app (goodIn_of _ (by decide +kernel)) ggX8_read_X8_logOf

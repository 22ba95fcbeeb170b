theorem dX0_init_0 : decode cX0_init 0 = .ok (.aload_n 0, 1) := by decide +kernel
theorem dX0_init_1 : decode cX0_init 1 = .ok (.invokespecial 3, 3) := by decide +kernel
theorem dX0_init_4 : decode cX0_init 4 = .ok (.aload_n 0, 1) := by decide +kernel
theorem dX0_init_5 : decode cX0_init 5 = .ok (.iconst 2, 1) := by decide +kernel
theorem dX0_init_6 : decode cX0_init 6 = .ok (.putfield 9, 3) := by decide +kernel
theorem dX0_init_9 : decode cX0_init 9 = .ok (.aload_n 0, 1) := by decide +kernel
theorem dX0_init_10 : decode cX0_init 10 = .ok (.dconst 0, 1) := by decide +kernel
theorem dX0_init_11 : decode cX0_init 11 = .ok (.putfield 15, 3) := by decide +kernel
theorem dX0_init_14 : decode cX0_init 14 = .ok (.return_, 1) := by decide +kernel
theorem dX1_init_0 : decode cX1_init 0 = .ok (.aload_n 0, 1) := by decide +kernel
theorem dX1_init_1 : decode cX1_init 1 = .ok (.invokespecial 1, 3) := by decide +kernel
theorem dX1_init_4 : decode cX1_init 4 = .ok (.aload_n 0, 1) := by decide +kernel
theorem dX1_init_5 : decode cX1_init 5 = .ok (.dconst 1, 1) := by decide +kernel
theorem dX1_init_6 : decode cX1_init 6 = .ok (.putfield 7, 3) := by decide +kernel
theorem dX1_init_9 : decode cX1_init 9 = .ok (.aload_n 0, 1) := by decide +kernel
theorem dX1_init_10 : decode cX1_init 10 = .ok (.dconst 0, 1) := by decide +kernel
theorem dX1_init_11 : decode cX1_init 11 = .ok (.putfield 13, 3) := by decide +kernel
theorem dX1_init_14 : decode cX1_init 14 = .ok (.aload_n 0, 1) := by decide +kernel
theorem dX1_init_15 : decode cX1_init 15 = .ok (.dconst 0, 1) := by decide +kernel
theorem dX1_init_16 : decode cX1_init 16 = .ok (.putfield 16, 3) := by decide +kernel
theorem dX1_init_19 : decode cX1_init 19 = .ok (.aload_n 0, 1) := by decide +kernel
theorem dX1_init_20 : decode cX1_init 20 = .ok (.lconst 0, 1) := by decide +kernel
theorem dX1_init_21 : decode cX1_init 21 = .ok (.putfield 19, 3) := by decide +kernel
theorem dX1_init_24 : decode cX1_init 24 = .ok (.return_, 1) := by decide +kernel
theorem dX2_sizeIn_0 : decode cX2_sizeIn 0 = .ok (.lload_n 1, 1) := by decide +kernel
theorem dX2_sizeIn_1 : decode cX2_sizeIn 1 = .ok (.lconst 1, 1) := by decide +kernel
theorem dX2_sizeIn_2 : decode cX2_sizeIn 2 = .ok (.aload_n 0, 1) := by decide +kernel
theorem dX2_sizeIn_3 : decode cX2_sizeIn 3 = .ok (.getfield 39, 3) := by decide +kernel
theorem dX2_sizeIn_6 : decode cX2_sizeIn 6 = .ok (.lshl, 1) := by decide +kernel
theorem dX2_sizeIn_7 : decode cX2_sizeIn 7 = .ok (.lconst 1, 1) := by decide +kernel
theorem dX2_sizeIn_8 : decode cX2_sizeIn 8 = .ok (.lsub, 1) := by decide +kernel
theorem dX2_sizeIn_9 : decode cX2_sizeIn 9 = .ok (.land, 1) := by decide +kernel
theorem dX2_sizeIn_10 : decode cX2_sizeIn 10 = .ok (.lreturn, 1) := by decide +kernel
theorem dX2_endlessSize_0 : decode cX2_endlessSize 0 = .ok (.aload_n 0, 1) := by decide +kernel
theorem dX2_endlessSize_1 : decode cX2_endlessSize 1 = .ok (.getfield 36, 3) := by decide +kernel
theorem dX2_endlessSize_4 : decode cX2_endlessSize 4 = .ok (.i2l, 1) := by decide +kernel
theorem dX2_endlessSize_5 : decode cX2_endlessSize 5 = .ok (.aload_n 0, 1) := by decide +kernel
theorem dX2_endlessSize_6 : decode cX2_endlessSize 6 = .ok (.getfield 29, 3) := by decide +kernel
theorem dX2_endlessSize_9 : decode cX2_endlessSize 9 = .ok (.lshl, 1) := by decide +kernel
theorem dX2_endlessSize_10 : decode cX2_endlessSize 10 = .ok (.lreturn, 1) := by decide +kernel
set_option maxRecDepth 20000 in
theorem ggX2_isNumber_X2_sizeIn : GoodIn wsX2_isNumber wsX2_sizeIn := goodIn_r _ [5, 6] (by decide +kernel) (by decide +kernel)
set_option maxRecDepth 20000 in
theorem gX2_isNumber_X2_sizeIn : GoodIn wsX2_isNumber (wsV RX2 42 RX2 yX2_sizeIn wsX2_sizeIn) := goodIn_app (goodIn_of _ (by decide +kernel)) ggX2_isNumber_X2_sizeIn
set_option maxRecDepth 20000 in
theorem ggX2_isNumber_X2_endlessSize : GoodIn wsX2_isNumber wsX2_endlessSize := goodIn_r _ [10, 11, 12] (by decide +kernel) (by decide +kernel)
set_option maxRecDepth 20000 in
theorem gX2_isNumber_X2_endlessSize : GoodIn wsX2_isNumber (wsV RX2 46 RX2 yX2_endlessSize wsX2_endlessSize) := goodIn_app (goodIn_of _ (by decide +kernel)) ggX2_isNumber_X2_endlessSize
theorem dX2_isNumber_0 : decode cX2_isNumber 0 = .ok (.aload_n 0, 1) := by decide +kernel
theorem dX2_isNumber_1 : decode cX2_isNumber 1 = .ok (.lload_n 1, 1) := by decide +kernel
theorem dX2_isNumber_2 : decode cX2_isNumber 2 = .ok (.invokevirtual 42, 3) := by decide +kernel
theorem dX2_isNumber_5 : decode cX2_isNumber 5 = .ok (.aload_n 0, 1) := by decide +kernel
theorem dX2_isNumber_6 : decode cX2_isNumber 6 = .ok (.invokevirtual 46, 3) := by decide +kernel
theorem dX2_isNumber_9 : decode cX2_isNumber 9 = .ok (.lcmp, 1) := by decide +kernel
theorem dX2_isNumber_10 : decode cX2_isNumber 10 = .ok (.ifCond .gt 7, 3) := by decide +kernel
theorem dX2_isNumber_13 : decode cX2_isNumber 13 = .ok (.iconst 1, 1) := by decide +kernel
theorem dX2_isNumber_14 : decode cX2_isNumber 14 = .ok (.goto 4, 3) := by decide +kernel
theorem dX2_isNumber_17 : decode cX2_isNumber 17 = .ok (.iconst 0, 1) := by decide +kernel
theorem dX2_isNumber_18 : decode cX2_isNumber 18 = .ok (.ireturn, 1) := by decide +kernel
theorem dX2_stepsOf_0 : decode cX2_stepsOf 0 = .ok (.lconst 1, 1) := by decide +kernel
theorem dX2_stepsOf_1 : decode cX2_stepsOf 1 = .ok (.aload_n 0, 1) := by decide +kernel
theorem dX2_stepsOf_2 : decode cX2_stepsOf 2 = .ok (.getfield 29, 3) := by decide +kernel
theorem dX2_stepsOf_5 : decode cX2_stepsOf 5 = .ok (.lshl, 1) := by decide +kernel
theorem dX2_stepsOf_6 : decode cX2_stepsOf 6 = .ok (.lstore_n 3, 1) := by decide +kernel
theorem dX2_stepsOf_7 : decode cX2_stepsOf 7 = .ok (.lload_n 1, 1) := by decide +kernel
theorem dX2_stepsOf_8 : decode cX2_stepsOf 8 = .ok (.lload_n 3, 1) := by decide +kernel
theorem dX2_stepsOf_9 : decode cX2_stepsOf 9 = .ok (.lconst 1, 1) := by decide +kernel
theorem dX2_stepsOf_10 : decode cX2_stepsOf 10 = .ok (.lsub, 1) := by decide +kernel
theorem dX2_stepsOf_11 : decode cX2_stepsOf 11 = .ok (.land, 1) := by decide +kernel
theorem dX2_stepsOf_12 : decode cX2_stepsOf 12 = .ok (.lstore 5, 2) := by decide +kernel
theorem dX2_stepsOf_14 : decode cX2_stepsOf 14 = .ok (.lload_n 1, 1) := by decide +kernel
theorem dX2_stepsOf_15 : decode cX2_stepsOf 15 = .ok (.lload_n 3, 1) := by decide +kernel
theorem dX2_stepsOf_16 : decode cX2_stepsOf 16 = .ok (.lcmp, 1) := by decide +kernel
theorem dX2_stepsOf_17 : decode cX2_stepsOf 17 = .ok (.ifCond .ge 8, 3) := by decide +kernel
theorem dX2_stepsOf_20 : decode cX2_stepsOf 20 = .ok (.lload 5, 2) := by decide +kernel
theorem dX2_stepsOf_22 : decode cX2_stepsOf 22 = .ok (.goto 7, 3) := by decide +kernel
theorem dX2_stepsOf_25 : decode cX2_stepsOf 25 = .ok (.lload_n 3, 1) := by decide +kernel
theorem dX2_stepsOf_26 : decode cX2_stepsOf 26 = .ok (.lload 5, 2) := by decide +kernel
theorem dX2_stepsOf_28 : decode cX2_stepsOf 28 = .ok (.ladd, 1) := by decide +kernel
theorem dX2_stepsOf_29 : decode cX2_stepsOf 29 = .ok (.lreturn, 1) := by decide +kernel
theorem dX2_powerOf_0 : decode cX2_powerOf 0 = .ok (.lload_n 1, 1) := by decide +kernel
theorem dX2_powerOf_1 : decode cX2_powerOf 1 = .ok (.aload_n 0, 1) := by decide +kernel
theorem dX2_powerOf_2 : decode cX2_powerOf 2 = .ok (.getfield 29, 3) := by decide +kernel
theorem dX2_powerOf_5 : decode cX2_powerOf 5 = .ok (.lushr, 1) := by decide +kernel
theorem dX2_powerOf_6 : decode cX2_powerOf 6 = .ok (.l2i, 1) := by decide +kernel
theorem dX2_powerOf_7 : decode cX2_powerOf 7 = .ok (.istore_n 3, 1) := by decide +kernel
theorem dX2_powerOf_8 : decode cX2_powerOf 8 = .ok (.iload_n 3, 1) := by decide +kernel
theorem dX2_powerOf_9 : decode cX2_powerOf 9 = .ok (.iconst 1, 1) := by decide +kernel
theorem dX2_powerOf_10 : decode cX2_powerOf 10 = .ok (.invokestatic 50, 3) := by decide +kernel
theorem dX2_powerOf_13 : decode cX2_powerOf 13 = .ok (.iconst 1, 1) := by decide +kernel
theorem dX2_powerOf_14 : decode cX2_powerOf 14 = .ok (.isub, 1) := by decide +kernel
theorem dX2_powerOf_15 : decode cX2_powerOf 15 = .ok (.aload_n 0, 1) := by decide +kernel
theorem dX2_powerOf_16 : decode cX2_powerOf 16 = .ok (.getfield 33, 3) := by decide +kernel
theorem dX2_powerOf_19 : decode cX2_powerOf 19 = .ok (.iadd, 1) := by decide +kernel
theorem dX2_powerOf_20 : decode cX2_powerOf 20 = .ok (.aload_n 0, 1) := by decide +kernel
theorem dX2_powerOf_21 : decode cX2_powerOf 21 = .ok (.getfield 29, 3) := by decide +kernel
theorem dX2_powerOf_24 : decode cX2_powerOf 24 = .ok (.isub, 1) := by decide +kernel
theorem dX2_powerOf_25 : decode cX2_powerOf 25 = .ok (.ireturn, 1) := by decide +kernel
set_option maxRecDepth 20000 in
theorem ggX2_numberOf_X2_sizeIn : GoodIn wsX2_numberOf wsX2_sizeIn := goodIn_r _ [7, 2] (by decide +kernel) (by decide +kernel)
set_option maxRecDepth 20000 in
theorem gX2_numberOf_X2_sizeIn : GoodIn wsX2_numberOf (wsV RX2 42 RX2 yX2_sizeIn wsX2_sizeIn) := goodIn_app (goodIn_of _ (by decide +kernel)) ggX2_numberOf_X2_sizeIn
set_option maxRecDepth 20000 in
theorem ggX2_numberOf_X2_endlessSize : GoodIn wsX2_numberOf wsX2_endlessSize := goodIn_r _ [11, 12, 13] (by decide +kernel) (by decide +kernel)
set_option maxRecDepth 20000 in
theorem gX2_numberOf_X2_endlessSize : GoodIn wsX2_numberOf (wsV RX2 46 RX2 yX2_endlessSize wsX2_endlessSize) := goodIn_app (goodIn_of _ (by decide +kernel)) ggX2_numberOf_X2_endlessSize
set_option maxRecDepth 20000 in
theorem ggX2_numberOf_X2_stepsOf : GoodIn wsX2_numberOf wsX2_stepsOf := goodIn_r _ [17, 13] (by decide +kernel) (by decide +kernel)
set_option maxRecDepth 20000 in
theorem gX2_numberOf_X2_stepsOf : GoodIn wsX2_numberOf (wsV RX2 58 RX2 yX2_stepsOf wsX2_stepsOf) := goodIn_app (goodIn_of _ (by decide +kernel)) ggX2_numberOf_X2_stepsOf
set_option maxRecDepth 20000 in
theorem ggX2_numberOf_X2_powerOf : GoodIn wsX2_numberOf wsX2_powerOf := goodIn_r _ [21, 13, 22, 23, 24, 25, 26] (by decide +kernel) (by decide +kernel)
set_option maxRecDepth 20000 in
theorem gX2_numberOf_X2_powerOf : GoodIn wsX2_numberOf (wsV RX2 61 RX2 yX2_powerOf wsX2_powerOf) := goodIn_app (goodIn_of _ (by decide +kernel)) ggX2_numberOf_X2_powerOf
set_option maxRecDepth 20000 in
theorem ggX2_numberOf_X8_powerOfTwo : GoodIn wsX2_numberOf wsX8_powerOfTwo := goodIn_r _ [29, 30, 31, 32, 33, 24, 34] (by decide +kernel) (by decide +kernel)
set_option maxRecDepth 20000 in
theorem gX2_numberOf_X8_powerOfTwo_n65 : GoodIn wsX2_numberOf (wsX8_powerOfTwo) := ggX2_numberOf_X8_powerOfTwo
theorem dX2_numberOf_0 : decode cX2_numberOf 0 = .ok (.aload_n 0, 1) := by decide +kernel
theorem dX2_numberOf_1 : decode cX2_numberOf 1 = .ok (.lload_n 1, 1) := by decide +kernel
theorem dX2_numberOf_2 : decode cX2_numberOf 2 = .ok (.invokevirtual 42, 3) := by decide +kernel
theorem dX2_numberOf_5 : decode cX2_numberOf 5 = .ok (.lstore_n 3, 1) := by decide +kernel
theorem dX2_numberOf_6 : decode cX2_numberOf 6 = .ok (.lload_n 3, 1) := by decide +kernel
theorem dX2_numberOf_7 : decode cX2_numberOf 7 = .ok (.aload_n 0, 1) := by decide +kernel
theorem dX2_numberOf_8 : decode cX2_numberOf 8 = .ok (.invokevirtual 46, 3) := by decide +kernel
theorem dX2_numberOf_11 : decode cX2_numberOf 11 = .ok (.lcmp, 1) := by decide +kernel
theorem dX2_numberOf_12 : decode cX2_numberOf 12 = .ok (.ifCond .ne 9, 3) := by decide +kernel
theorem dX2_numberOf_15 : decode cX2_numberOf 15 = .ok (.ldc2_w 56, 3) := by decide +kernel
theorem dX2_numberOf_18 : decode cX2_numberOf 18 = .ok (.goto 18, 3) := by decide +kernel
theorem dX2_numberOf_21 : decode cX2_numberOf 21 = .ok (.aload_n 0, 1) := by decide +kernel
theorem dX2_numberOf_22 : decode cX2_numberOf 22 = .ok (.lload_n 3, 1) := by decide +kernel
theorem dX2_numberOf_23 : decode cX2_numberOf 23 = .ok (.invokevirtual 58, 3) := by decide +kernel
theorem dX2_numberOf_26 : decode cX2_numberOf 26 = .ok (.l2d, 1) := by decide +kernel
theorem dX2_numberOf_27 : decode cX2_numberOf 27 = .ok (.aload_n 0, 1) := by decide +kernel
theorem dX2_numberOf_28 : decode cX2_numberOf 28 = .ok (.lload_n 3, 1) := by decide +kernel
theorem dX2_numberOf_29 : decode cX2_numberOf 29 = .ok (.invokevirtual 61, 3) := by decide +kernel
theorem dX2_numberOf_32 : decode cX2_numberOf 32 = .ok (.invokestatic 65, 3) := by decide +kernel
theorem dX2_numberOf_35 : decode cX2_numberOf 35 = .ok (.dmul, 1) := by decide +kernel
theorem dX2_numberOf_36 : decode cX2_numberOf 36 = .ok (.dstore 5, 2) := by decide +kernel
theorem dX2_numberOf_38 : decode cX2_numberOf 38 = .ok (.lload_n 1, 1) := by decide +kernel
theorem dX2_numberOf_39 : decode cX2_numberOf 39 = .ok (.aload_n 0, 1) := by decide +kernel
theorem dX2_numberOf_40 : decode cX2_numberOf 40 = .ok (.getfield 39, 3) := by decide +kernel
theorem dX2_numberOf_43 : decode cX2_numberOf 43 = .ok (.lushr, 1) := by decide +kernel
theorem dX2_numberOf_44 : decode cX2_numberOf 44 = .ok (.lconst 1, 1) := by decide +kernel
theorem dX2_numberOf_45 : decode cX2_numberOf 45 = .ok (.land, 1) := by decide +kernel
theorem dX2_numberOf_46 : decode cX2_numberOf 46 = .ok (.lconst 0, 1) := by decide +kernel
theorem dX2_numberOf_47 : decode cX2_numberOf 47 = .ok (.lcmp, 1) := by decide +kernel
theorem dX2_numberOf_48 : decode cX2_numberOf 48 = .ok (.ifCond .eq 9, 3) := by decide +kernel
theorem dX2_numberOf_51 : decode cX2_numberOf 51 = .ok (.dload 5, 2) := by decide +kernel
theorem dX2_numberOf_53 : decode cX2_numberOf 53 = .ok (.dneg, 1) := by decide +kernel
theorem dX2_numberOf_54 : decode cX2_numberOf 54 = .ok (.goto 5, 3) := by decide +kernel
theorem dX2_numberOf_57 : decode cX2_numberOf 57 = .ok (.dload 5, 2) := by decide +kernel
theorem dX2_numberOf_59 : decode cX2_numberOf 59 = .ok (.dreturn, 1) := by decide +kernel
set_option maxRecDepth 20000 in
theorem ggX2_bitsOf_X2_sizeOf : GoodIn wsX2_bitsOf wsX2_sizeOf := goodIn_r _ [7, 8, 9, 10, 11, 12, 13, 14, 15, 16, 17, 6, 18, 19, 20, 21, 22, 23, 24, 25, 26, 27] (by decide +kernel) (by decide +kernel)
set_option maxRecDepth 20000 in
theorem gX2_bitsOf_X2_sizeOf : GoodIn wsX2_bitsOf (wsV RX2 71 RX2 yX2_sizeOf wsX2_sizeOf) := goodIn_app (goodIn_of _ (by decide +kernel)) ggX2_bitsOf_X2_sizeOf
theorem dX2_bitsOf_0 : decode cX2_bitsOf 0 = .ok (.dload_n 1, 1) := by decide +kernel
theorem dX2_bitsOf_1 : decode cX2_bitsOf 1 = .ok (.dconst 0, 1) := by decide +kernel
theorem dX2_bitsOf_2 : decode cX2_bitsOf 2 = .ok (.dcmp .g, 1) := by decide +kernel
theorem dX2_bitsOf_3 : decode cX2_bitsOf 3 = .ok (.ifCond .lt 17, 3) := by decide +kernel
theorem dX2_bitsOf_6 : decode cX2_bitsOf 6 = .ok (.dload_n 1, 1) := by decide +kernel
theorem dX2_bitsOf_7 : decode cX2_bitsOf 7 = .ok (.dconst 0, 1) := by decide +kernel
theorem dX2_bitsOf_8 : decode cX2_bitsOf 8 = .ok (.dcmp .l, 1) := by decide +kernel
theorem dX2_bitsOf_9 : decode cX2_bitsOf 9 = .ok (.ifCond .ne 15, 3) := by decide +kernel
theorem dX2_bitsOf_12 : decode cX2_bitsOf 12 = .ok (.dconst 1, 1) := by decide +kernel
theorem dX2_bitsOf_13 : decode cX2_bitsOf 13 = .ok (.dload_n 1, 1) := by decide +kernel
theorem dX2_bitsOf_14 : decode cX2_bitsOf 14 = .ok (.ddiv, 1) := by decide +kernel
theorem dX2_bitsOf_15 : decode cX2_bitsOf 15 = .ok (.dconst 0, 1) := by decide +kernel
theorem dX2_bitsOf_16 : decode cX2_bitsOf 16 = .ok (.dcmp .g, 1) := by decide +kernel
theorem dX2_bitsOf_17 : decode cX2_bitsOf 17 = .ok (.ifCond .ge 7, 3) := by decide +kernel
theorem dX2_bitsOf_20 : decode cX2_bitsOf 20 = .ok (.iconst 1, 1) := by decide +kernel
theorem dX2_bitsOf_21 : decode cX2_bitsOf 21 = .ok (.goto 4, 3) := by decide +kernel
theorem dX2_bitsOf_24 : decode cX2_bitsOf 24 = .ok (.iconst 0, 1) := by decide +kernel
theorem dX2_bitsOf_25 : decode cX2_bitsOf 25 = .ok (.istore_n 3, 1) := by decide +kernel
theorem dX2_bitsOf_26 : decode cX2_bitsOf 26 = .ok (.aload_n 0, 1) := by decide +kernel
theorem dX2_bitsOf_27 : decode cX2_bitsOf 27 = .ok (.iload_n 3, 1) := by decide +kernel
theorem dX2_bitsOf_28 : decode cX2_bitsOf 28 = .ok (.ifCond .eq 8, 3) := by decide +kernel
theorem dX2_bitsOf_31 : decode cX2_bitsOf 31 = .ok (.dload_n 1, 1) := by decide +kernel
theorem dX2_bitsOf_32 : decode cX2_bitsOf 32 = .ok (.dneg, 1) := by decide +kernel
theorem dX2_bitsOf_33 : decode cX2_bitsOf 33 = .ok (.goto 4, 3) := by decide +kernel
theorem dX2_bitsOf_36 : decode cX2_bitsOf 36 = .ok (.dload_n 1, 1) := by decide +kernel
theorem dX2_bitsOf_37 : decode cX2_bitsOf 37 = .ok (.invokevirtual 71, 3) := by decide +kernel
theorem dX2_bitsOf_40 : decode cX2_bitsOf 40 = .ok (.lstore 4, 2) := by decide +kernel
theorem dX2_bitsOf_42 : decode cX2_bitsOf 42 = .ok (.iload_n 3, 1) := by decide +kernel
theorem dX2_bitsOf_43 : decode cX2_bitsOf 43 = .ok (.ifCond .eq 17, 3) := by decide +kernel
theorem dX2_bitsOf_46 : decode cX2_bitsOf 46 = .ok (.lload 4, 2) := by decide +kernel
theorem dX2_bitsOf_48 : decode cX2_bitsOf 48 = .ok (.ldc2_w 75, 3) := by decide +kernel
theorem dX2_bitsOf_51 : decode cX2_bitsOf 51 = .ok (.aload_n 0, 1) := by decide +kernel
theorem dX2_bitsOf_52 : decode cX2_bitsOf 52 = .ok (.getfield 39, 3) := by decide +kernel
theorem dX2_bitsOf_55 : decode cX2_bitsOf 55 = .ok (.lshl, 1) := by decide +kernel
theorem dX2_bitsOf_56 : decode cX2_bitsOf 56 = .ok (.lor, 1) := by decide +kernel
theorem dX2_bitsOf_57 : decode cX2_bitsOf 57 = .ok (.goto 5, 3) := by decide +kernel
theorem dX2_bitsOf_60 : decode cX2_bitsOf 60 = .ok (.lload 4, 2) := by decide +kernel
theorem dX2_bitsOf_62 : decode cX2_bitsOf 62 = .ok (.lreturn, 1) := by decide +kernel
set_option maxRecDepth 20000 in
theorem ggX2_sizeOf_X8_isEndless : GoodIn wsX2_sizeOf wsX8_isEndless := goodIn_r _ [6, 7] (by decide +kernel) (by decide +kernel)
set_option maxRecDepth 20000 in
theorem gX2_sizeOf_X8_isEndless_n77 : GoodIn wsX2_sizeOf (wsX8_isEndless) := ggX2_sizeOf_X8_isEndless
set_option maxRecDepth 20000 in
theorem ggX2_sizeOf_X2_endlessSize : GoodIn wsX2_sizeOf wsX2_endlessSize := goodIn_r _ [12, 13, 2] (by decide +kernel) (by decide +kernel)
set_option maxRecDepth 20000 in
theorem gX2_sizeOf_X2_endlessSize : GoodIn wsX2_sizeOf (wsV RX2 46 RX2 yX2_endlessSize wsX2_endlessSize) := goodIn_app (goodIn_of _ (by decide +kernel)) ggX2_sizeOf_X2_endlessSize
set_option maxRecDepth 20000 in
theorem ggX2_sizeOf_X8_powerOfTwo : GoodIn wsX2_sizeOf wsX8_powerOfTwo := goodIn_r _ [15, 16, 17, 18, 19, 20, 21] (by decide +kernel) (by decide +kernel)
set_option maxRecDepth 20000 in
theorem gX2_sizeOf_X8_powerOfTwo_n65 : GoodIn wsX2_sizeOf (wsX8_powerOfTwo) := ggX2_sizeOf_X8_powerOfTwo
theorem dX2_sizeOf_0 : decode cX2_sizeOf 0 = .ok (.dload_n 1, 1) := by decide +kernel
theorem dX2_sizeOf_1 : decode cX2_sizeOf 1 = .ok (.invokestatic 77, 3) := by decide +kernel
theorem dX2_sizeOf_4 : decode cX2_sizeOf 4 = .ok (.ifCond .eq 8, 3) := by decide +kernel
theorem dX2_sizeOf_7 : decode cX2_sizeOf 7 = .ok (.aload_n 0, 1) := by decide +kernel
theorem dX2_sizeOf_8 : decode cX2_sizeOf 8 = .ok (.invokevirtual 46, 3) := by decide +kernel
theorem dX2_sizeOf_11 : decode cX2_sizeOf 11 = .ok (.lreturn, 1) := by decide +kernel
theorem dX2_sizeOf_12 : decode cX2_sizeOf 12 = .ok (.dload_n 1, 1) := by decide +kernel
theorem dX2_sizeOf_13 : decode cX2_sizeOf 13 = .ok (.aload_n 0, 1) := by decide +kernel
theorem dX2_sizeOf_14 : decode cX2_sizeOf 14 = .ok (.getfield 33, 3) := by decide +kernel
theorem dX2_sizeOf_17 : decode cX2_sizeOf 17 = .ok (.invokestatic 65, 3) := by decide +kernel
theorem dX2_sizeOf_20 : decode cX2_sizeOf 20 = .ok (.dcmp .g, 1) := by decide +kernel
theorem dX2_sizeOf_21 : decode cX2_sizeOf 21 = .ok (.ifCond .ge 38, 3) := by decide +kernel
theorem dX2_sizeOf_24 : decode cX2_sizeOf 24 = .ok (.aload_n 0, 1) := by decide +kernel
theorem dX2_sizeOf_25 : decode cX2_sizeOf 25 = .ok (.getfield 29, 3) := by decide +kernel
theorem dX2_sizeOf_28 : decode cX2_sizeOf 28 = .ok (.aload_n 0, 1) := by decide +kernel
theorem dX2_sizeOf_29 : decode cX2_sizeOf 29 = .ok (.getfield 33, 3) := by decide +kernel
theorem dX2_sizeOf_32 : decode cX2_sizeOf 32 = .ok (.isub, 1) := by decide +kernel
theorem dX2_sizeOf_33 : decode cX2_sizeOf 33 = .ok (.iconst 2, 1) := by decide +kernel
theorem dX2_sizeOf_34 : decode cX2_sizeOf 34 = .ok (.idiv, 1) := by decide +kernel
theorem dX2_sizeOf_35 : decode cX2_sizeOf 35 = .ok (.istore_n 3, 1) := by decide +kernel
theorem dX2_sizeOf_36 : decode cX2_sizeOf 36 = .ok (.dload_n 1, 1) := by decide +kernel
theorem dX2_sizeOf_37 : decode cX2_sizeOf 37 = .ok (.iload_n 3, 1) := by decide +kernel
theorem dX2_sizeOf_38 : decode cX2_sizeOf 38 = .ok (.invokestatic 65, 3) := by decide +kernel
theorem dX2_sizeOf_41 : decode cX2_sizeOf 41 = .ok (.dmul, 1) := by decide +kernel
theorem dX2_sizeOf_42 : decode cX2_sizeOf 42 = .ok (.aload_n 0, 1) := by decide +kernel
theorem dX2_sizeOf_43 : decode cX2_sizeOf 43 = .ok (.getfield 29, 3) := by decide +kernel
theorem dX2_sizeOf_46 : decode cX2_sizeOf 46 = .ok (.aload_n 0, 1) := by decide +kernel
theorem dX2_sizeOf_47 : decode cX2_sizeOf 47 = .ok (.getfield 33, 3) := by decide +kernel
theorem dX2_sizeOf_50 : decode cX2_sizeOf 50 = .ok (.isub, 1) := by decide +kernel
theorem dX2_sizeOf_51 : decode cX2_sizeOf 51 = .ok (.iload_n 3, 1) := by decide +kernel
theorem dX2_sizeOf_52 : decode cX2_sizeOf 52 = .ok (.isub, 1) := by decide +kernel
theorem dX2_sizeOf_53 : decode cX2_sizeOf 53 = .ok (.invokestatic 65, 3) := by decide +kernel
theorem dX2_sizeOf_56 : decode cX2_sizeOf 56 = .ok (.dmul, 1) := by decide +kernel
theorem dX2_sizeOf_57 : decode cX2_sizeOf 57 = .ok (.d2l, 1) := by decide +kernel
theorem dX2_sizeOf_58 : decode cX2_sizeOf 58 = .ok (.lreturn, 1) := by decide +kernel
theorem dX2_sizeOf_59 : decode cX2_sizeOf 59 = .ok (.dload_n 1, 1) := by decide +kernel
theorem dX2_sizeOf_60 : decode cX2_sizeOf 60 = .ok (.dstore_n 3, 1) := by decide +kernel
theorem dX2_sizeOf_61 : decode cX2_sizeOf 61 = .ok (.iconst 0, 1) := by decide +kernel
theorem dX2_sizeOf_62 : decode cX2_sizeOf 62 = .ok (.istore 5, 2) := by decide +kernel
theorem dX2_sizeOf_64 : decode cX2_sizeOf 64 = .ok (.sipush 512, 3) := by decide +kernel
theorem dX2_sizeOf_67 : decode cX2_sizeOf 67 = .ok (.istore 6, 2) := by decide +kernel
theorem dX2_sizeOf_69 : decode cX2_sizeOf 69 = .ok (.iload 6, 2) := by decide +kernel
theorem dX2_sizeOf_71 : decode cX2_sizeOf 71 = .ok (.ifCond .le 64, 3) := by decide +kernel
theorem dX2_sizeOf_74 : decode cX2_sizeOf 74 = .ok (.iload 6, 2) := by decide +kernel
theorem dX2_sizeOf_76 : decode cX2_sizeOf 76 = .ok (.invokestatic 65, 3) := by decide +kernel
theorem dX2_sizeOf_79 : decode cX2_sizeOf 79 = .ok (.dstore 7, 2) := by decide +kernel
theorem dX2_sizeOf_81 : decode cX2_sizeOf 81 = .ok (.dload_n 3, 1) := by decide +kernel
theorem dX2_sizeOf_82 : decode cX2_sizeOf 82 = .ok (.dload 7, 2) := by decide +kernel
theorem dX2_sizeOf_84 : decode cX2_sizeOf 84 = .ok (.dcmp .l, 1) := by decide +kernel
theorem dX2_sizeOf_85 : decode cX2_sizeOf 85 = .ok (.ifCond .lt 18, 3) := by decide +kernel
theorem dX2_sizeOf_88 : decode cX2_sizeOf 88 = .ok (.dload_n 3, 1) := by decide +kernel
theorem dX2_sizeOf_89 : decode cX2_sizeOf 89 = .ok (.dload 7, 2) := by decide +kernel
theorem dX2_sizeOf_91 : decode cX2_sizeOf 91 = .ok (.ddiv, 1) := by decide +kernel
theorem dX2_sizeOf_92 : decode cX2_sizeOf 92 = .ok (.dstore_n 3, 1) := by decide +kernel
theorem dX2_sizeOf_93 : decode cX2_sizeOf 93 = .ok (.iload 5, 2) := by decide +kernel
theorem dX2_sizeOf_95 : decode cX2_sizeOf 95 = .ok (.iload 6, 2) := by decide +kernel
theorem dX2_sizeOf_97 : decode cX2_sizeOf 97 = .ok (.iadd, 1) := by decide +kernel
theorem dX2_sizeOf_98 : decode cX2_sizeOf 98 = .ok (.istore 5, 2) := by decide +kernel
theorem dX2_sizeOf_100 : decode cX2_sizeOf 100 = .ok (.goto 26, 3) := by decide +kernel
theorem dX2_sizeOf_103 : decode cX2_sizeOf 103 = .ok (.dload_n 3, 1) := by decide +kernel
theorem dX2_sizeOf_104 : decode cX2_sizeOf 104 = .ok (.dload 7, 2) := by decide +kernel
theorem dX2_sizeOf_106 : decode cX2_sizeOf 106 = .ok (.dmul, 1) := by decide +kernel
theorem dX2_sizeOf_107 : decode cX2_sizeOf 107 = .ok (.ldc2_w 81, 3) := by decide +kernel
theorem dX2_sizeOf_110 : decode cX2_sizeOf 110 = .ok (.dcmp .g, 1) := by decide +kernel
theorem dX2_sizeOf_111 : decode cX2_sizeOf 111 = .ok (.ifCond .ge 15, 3) := by decide +kernel
theorem dX2_sizeOf_114 : decode cX2_sizeOf 114 = .ok (.dload_n 3, 1) := by decide +kernel
theorem dX2_sizeOf_115 : decode cX2_sizeOf 115 = .ok (.dload 7, 2) := by decide +kernel
theorem dX2_sizeOf_117 : decode cX2_sizeOf 117 = .ok (.dmul, 1) := by decide +kernel
theorem dX2_sizeOf_118 : decode cX2_sizeOf 118 = .ok (.dstore_n 3, 1) := by decide +kernel
theorem dX2_sizeOf_119 : decode cX2_sizeOf 119 = .ok (.iload 5, 2) := by decide +kernel
theorem dX2_sizeOf_121 : decode cX2_sizeOf 121 = .ok (.iload 6, 2) := by decide +kernel
theorem dX2_sizeOf_123 : decode cX2_sizeOf 123 = .ok (.isub, 1) := by decide +kernel
theorem dX2_sizeOf_124 : decode cX2_sizeOf 124 = .ok (.istore 5, 2) := by decide +kernel
theorem dX2_sizeOf_126 : decode cX2_sizeOf 126 = .ok (.iload 6, 2) := by decide +kernel
theorem dX2_sizeOf_128 : decode cX2_sizeOf 128 = .ok (.iconst 1, 1) := by decide +kernel
theorem dX2_sizeOf_129 : decode cX2_sizeOf 129 = .ok (.ishr, 1) := by decide +kernel
theorem dX2_sizeOf_130 : decode cX2_sizeOf 130 = .ok (.istore 6, 2) := by decide +kernel
theorem dX2_sizeOf_132 : decode cX2_sizeOf 132 = .ok (.goto (-63), 3) := by decide +kernel
theorem dX2_sizeOf_135 : decode cX2_sizeOf 135 = .ok (.iload 5, 2) := by decide +kernel
theorem dX2_sizeOf_137 : decode cX2_sizeOf 137 = .ok (.aload_n 0, 1) := by decide +kernel
theorem dX2_sizeOf_138 : decode cX2_sizeOf 138 = .ok (.getfield 33, 3) := by decide +kernel
theorem dX2_sizeOf_141 : decode cX2_sizeOf 141 = .ok (.isub, 1) := by decide +kernel
theorem dX2_sizeOf_142 : decode cX2_sizeOf 142 = .ok (.i2l, 1) := by decide +kernel
theorem dX2_sizeOf_143 : decode cX2_sizeOf 143 = .ok (.aload_n 0, 1) := by decide +kernel
theorem dX2_sizeOf_144 : decode cX2_sizeOf 144 = .ok (.getfield 29, 3) := by decide +kernel
theorem dX2_sizeOf_147 : decode cX2_sizeOf 147 = .ok (.lshl, 1) := by decide +kernel
theorem dX2_sizeOf_148 : decode cX2_sizeOf 148 = .ok (.dload_n 3, 1) := by decide +kernel
theorem dX2_sizeOf_149 : decode cX2_sizeOf 149 = .ok (.aload_n 0, 1) := by decide +kernel
theorem dX2_sizeOf_150 : decode cX2_sizeOf 150 = .ok (.getfield 29, 3) := by decide +kernel
theorem dX2_sizeOf_153 : decode cX2_sizeOf 153 = .ok (.invokestatic 65, 3) := by decide +kernel
theorem dX2_sizeOf_156 : decode cX2_sizeOf 156 = .ok (.dmul, 1) := by decide +kernel
theorem dX2_sizeOf_157 : decode cX2_sizeOf 157 = .ok (.d2l, 1) := by decide +kernel
theorem dX2_sizeOf_158 : decode cX2_sizeOf 158 = .ok (.ladd, 1) := by decide +kernel
theorem dX2_sizeOf_159 : decode cX2_sizeOf 159 = .ok (.lreturn, 1) := by decide +kernel
set_option maxRecDepth 20000 in
theorem ggX3_init_X5_init : GoodIn wsX3_init wsX5_init := goodIn_r _ [6, 7, 8, 9, 10, 11, 12, 13, 14, 15, 16] (by decide +kernel) (by decide +kernel)
set_option maxRecDepth 20000 in
theorem gX3_init_X5_init_n3 : GoodIn wsX3_init (wsX5_init) := ggX3_init_X5_init
theorem dX3_init_0 : decode cX3_init 0 = .ok (.aload_n 0, 1) := by decide +kernel
theorem dX3_init_1 : decode cX3_init 1 = .ok (.invokespecial 3, 3) := by decide +kernel
theorem dX3_init_4 : decode cX3_init 4 = .ok (.aload_n 0, 1) := by decide +kernel
theorem dX3_init_5 : decode cX3_init 5 = .ok (.bipush 16, 2) := by decide +kernel
theorem dX3_init_7 : decode cX3_init 7 = .ok (.newarray .double, 2) := by decide +kernel
theorem dX3_init_9 : decode cX3_init 9 = .ok (.putfield 9, 3) := by decide +kernel
theorem dX3_init_12 : decode cX3_init 12 = .ok (.aload_n 0, 1) := by decide +kernel
theorem dX3_init_13 : decode cX3_init 13 = .ok (.iload_n 1, 1) := by decide +kernel
theorem dX3_init_14 : decode cX3_init 14 = .ok (.putfield 15, 3) := by decide +kernel
theorem dX3_init_17 : decode cX3_init 17 = .ok (.return_, 1) := by decide +kernel
theorem dX4_init_0 : decode cX4_init 0 = .ok (.aload_n 0, 1) := by decide +kernel
theorem dX4_init_1 : decode cX4_init 1 = .ok (.invokespecial 3, 3) := by decide +kernel
theorem dX4_init_4 : decode cX4_init 4 = .ok (.aload_n 0, 1) := by decide +kernel
theorem dX4_init_5 : decode cX4_init 5 = .ok (.iconst 0, 1) := by decide +kernel
theorem dX4_init_6 : decode cX4_init 6 = .ok (.putfield 9, 3) := by decide +kernel
theorem dX4_init_9 : decode cX4_init 9 = .ok (.aload_n 0, 1) := by decide +kernel
theorem dX4_init_10 : decode cX4_init 10 = .ok (.lconst 0, 1) := by decide +kernel
theorem dX4_init_11 : decode cX4_init 11 = .ok (.putfield 15, 3) := by decide +kernel
theorem dX4_init_14 : decode cX4_init 14 = .ok (.aload_n 0, 1) := by decide +kernel
theorem dX4_init_15 : decode cX4_init 15 = .ok (.dconst 0, 1) := by decide +kernel
theorem dX4_init_16 : decode cX4_init 16 = .ok (.putfield 19, 3) := by decide +kernel
theorem dX4_init_19 : decode cX4_init 19 = .ok (.return_, 1) := by decide +kernel
theorem dX4_isWhole_0 : decode cX4_isWhole 0 = .ok (.aload_n 0, 1) := by decide +kernel
theorem dX4_isWhole_1 : decode cX4_isWhole 1 = .ok (.getfield 9, 3) := by decide +kernel
theorem dX4_isWhole_4 : decode cX4_isWhole 4 = .ok (.iconst 1, 1) := by decide +kernel
theorem dX4_isWhole_5 : decode cX4_isWhole 5 = .ok (.if_icmp .gt 7, 3) := by decide +kernel
theorem dX4_isWhole_8 : decode cX4_isWhole 8 = .ok (.iconst 1, 1) := by decide +kernel
theorem dX4_isWhole_9 : decode cX4_isWhole 9 = .ok (.goto 4, 3) := by decide +kernel
theorem dX4_isWhole_12 : decode cX4_isWhole 12 = .ok (.iconst 0, 1) := by decide +kernel
theorem dX4_isWhole_13 : decode cX4_isWhole 13 = .ok (.ireturn, 1) := by decide +kernel
set_option maxRecDepth 20000 in
theorem ggX4_asInt_X4_isWhole : GoodIn wsX4_asInt wsX4_isWhole := goodIn_r _ [7, 8, 9, 10, 11] (by decide +kernel) (by decide +kernel)
set_option maxRecDepth 20000 in
theorem gX4_asInt_X4_isWhole : GoodIn wsX4_asInt (wsV RX4 23 RX4 yX4_isWhole wsX4_isWhole) := goodIn_app (goodIn_of _ (by decide +kernel)) ggX4_asInt_X4_isWhole
theorem dX4_asInt_0 : decode cX4_asInt 0 = .ok (.aload_n 0, 1) := by decide +kernel
theorem dX4_asInt_1 : decode cX4_asInt 1 = .ok (.invokevirtual 23, 3) := by decide +kernel
theorem dX4_asInt_4 : decode cX4_asInt 4 = .ok (.ifCond .eq 11, 3) := by decide +kernel
theorem dX4_asInt_7 : decode cX4_asInt 7 = .ok (.aload_n 0, 1) := by decide +kernel
theorem dX4_asInt_8 : decode cX4_asInt 8 = .ok (.getfield 15, 3) := by decide +kernel
theorem dX4_asInt_11 : decode cX4_asInt 11 = .ok (.l2i, 1) := by decide +kernel
theorem dX4_asInt_12 : decode cX4_asInt 12 = .ok (.goto 8, 3) := by decide +kernel
theorem dX4_asInt_15 : decode cX4_asInt 15 = .ok (.aload_n 0, 1) := by decide +kernel
theorem dX4_asInt_16 : decode cX4_asInt 16 = .ok (.getfield 19, 3) := by decide +kernel
theorem dX4_asInt_19 : decode cX4_asInt 19 = .ok (.d2i, 1) := by decide +kernel
theorem dX4_asInt_20 : decode cX4_asInt 20 = .ok (.ireturn, 1) := by decide +kernel
set_option maxRecDepth 20000 in
theorem ggX4_asLong_X4_isWhole : GoodIn wsX4_asLong wsX4_isWhole := goodIn_r _ [7, 8, 9, 10, 11] (by decide +kernel) (by decide +kernel)
set_option maxRecDepth 20000 in
theorem gX4_asLong_X4_isWhole : GoodIn wsX4_asLong (wsV RX4 23 RX4 yX4_isWhole wsX4_isWhole) := goodIn_app (goodIn_of _ (by decide +kernel)) ggX4_asLong_X4_isWhole
theorem dX4_asLong_0 : decode cX4_asLong 0 = .ok (.aload_n 0, 1) := by decide +kernel
theorem dX4_asLong_1 : decode cX4_asLong 1 = .ok (.invokevirtual 23, 3) := by decide +kernel
theorem dX4_asLong_4 : decode cX4_asLong 4 = .ok (.ifCond .eq 10, 3) := by decide +kernel
theorem dX4_asLong_7 : decode cX4_asLong 7 = .ok (.aload_n 0, 1) := by decide +kernel
theorem dX4_asLong_8 : decode cX4_asLong 8 = .ok (.getfield 15, 3) := by decide +kernel
theorem dX4_asLong_11 : decode cX4_asLong 11 = .ok (.goto 8, 3) := by decide +kernel
theorem dX4_asLong_14 : decode cX4_asLong 14 = .ok (.aload_n 0, 1) := by decide +kernel
theorem dX4_asLong_15 : decode cX4_asLong 15 = .ok (.getfield 19, 3) := by decide +kernel
theorem dX4_asLong_18 : decode cX4_asLong 18 = .ok (.d2l, 1) := by decide +kernel
theorem dX4_asLong_19 : decode cX4_asLong 19 = .ok (.lreturn, 1) := by decide +kernel
set_option maxRecDepth 20000 in
theorem ggX4_asFloat_X4_isWhole : GoodIn wsX4_asFloat wsX4_isWhole := goodIn_r _ [7, 8, 9, 10, 11] (by decide +kernel) (by decide +kernel)
set_option maxRecDepth 20000 in
theorem gX4_asFloat_X4_isWhole : GoodIn wsX4_asFloat (wsV RX4 23 RX4 yX4_isWhole wsX4_isWhole) := goodIn_app (goodIn_of _ (by decide +kernel)) ggX4_asFloat_X4_isWhole
theorem dX4_asFloat_0 : decode cX4_asFloat 0 = .ok (.aload_n 0, 1) := by decide +kernel
theorem dX4_asFloat_1 : decode cX4_asFloat 1 = .ok (.invokevirtual 23, 3) := by decide +kernel
theorem dX4_asFloat_4 : decode cX4_asFloat 4 = .ok (.ifCond .eq 11, 3) := by decide +kernel
theorem dX4_asFloat_7 : decode cX4_asFloat 7 = .ok (.aload_n 0, 1) := by decide +kernel
theorem dX4_asFloat_8 : decode cX4_asFloat 8 = .ok (.getfield 15, 3) := by decide +kernel
theorem dX4_asFloat_11 : decode cX4_asFloat 11 = .ok (.l2f, 1) := by decide +kernel
theorem dX4_asFloat_12 : decode cX4_asFloat 12 = .ok (.goto 8, 3) := by decide +kernel
theorem dX4_asFloat_15 : decode cX4_asFloat 15 = .ok (.aload_n 0, 1) := by decide +kernel
theorem dX4_asFloat_16 : decode cX4_asFloat 16 = .ok (.getfield 19, 3) := by decide +kernel
theorem dX4_asFloat_19 : decode cX4_asFloat 19 = .ok (.d2f, 1) := by decide +kernel
theorem dX4_asFloat_20 : decode cX4_asFloat 20 = .ok (.freturn, 1) := by decide +kernel
set_option maxRecDepth 20000 in
theorem ggX4_asDouble_X4_isWhole : GoodIn wsX4_asDouble wsX4_isWhole := goodIn_r _ [7, 8, 9, 10, 11] (by decide +kernel) (by decide +kernel)
set_option maxRecDepth 20000 in
theorem gX4_asDouble_X4_isWhole : GoodIn wsX4_asDouble (wsV RX4 23 RX4 yX4_isWhole wsX4_isWhole) := goodIn_app (goodIn_of _ (by decide +kernel)) ggX4_asDouble_X4_isWhole
theorem dX4_asDouble_0 : decode cX4_asDouble 0 = .ok (.aload_n 0, 1) := by decide +kernel
theorem dX4_asDouble_1 : decode cX4_asDouble 1 = .ok (.invokevirtual 23, 3) := by decide +kernel
theorem dX4_asDouble_4 : decode cX4_asDouble 4 = .ok (.ifCond .eq 11, 3) := by decide +kernel
theorem dX4_asDouble_7 : decode cX4_asDouble 7 = .ok (.aload_n 0, 1) := by decide +kernel
theorem dX4_asDouble_8 : decode cX4_asDouble 8 = .ok (.getfield 15, 3) := by decide +kernel
theorem dX4_asDouble_11 : decode cX4_asDouble 11 = .ok (.l2d, 1) := by decide +kernel
theorem dX4_asDouble_12 : decode cX4_asDouble 12 = .ok (.goto 7, 3) := by decide +kernel
theorem dX4_asDouble_15 : decode cX4_asDouble 15 = .ok (.aload_n 0, 1) := by decide +kernel
theorem dX4_asDouble_16 : decode cX4_asDouble 16 = .ok (.getfield 19, 3) := by decide +kernel
theorem dX4_asDouble_19 : decode cX4_asDouble 19 = .ok (.dreturn, 1) := by decide +kernel
set_option maxRecDepth 20000 in
theorem ggX4_asReal_X4_asFloat : GoodIn wsX4_asReal wsX4_asFloat := goodIn_r _ [5, 6, 7, 8, 9, 10, 4, 11, 12, 17, 18, 19] (by decide +kernel) (by decide +kernel)
set_option maxRecDepth 20000 in
theorem gX4_asReal_X4_asFloat : GoodIn wsX4_asReal (wsV RX4 27 RX4 yX4_asFloat wsX4_asFloat) := goodIn_app (goodIn_of _ (by decide +kernel)) ggX4_asReal_X4_asFloat
set_option maxRecDepth 20000 in
theorem ggX4_asReal_X4_asDouble : GoodIn wsX4_asReal wsX4_asDouble := goodIn_r _ [16, 6, 7, 8, 9, 10, 4, 11, 12, 17, 18, 19] (by decide +kernel) (by decide +kernel)
set_option maxRecDepth 20000 in
theorem gX4_asReal_X4_asDouble : GoodIn wsX4_asReal (wsV RX4 31 RX4 yX4_asDouble wsX4_asDouble) := goodIn_app (goodIn_of _ (by decide +kernel)) ggX4_asReal_X4_asDouble
theorem dX4_asReal_0 : decode cX4_asReal 0 = .ok (.iload_n 1, 1) := by decide +kernel
theorem dX4_asReal_1 : decode cX4_asReal 1 = .ok (.iconst 2, 1) := by decide +kernel
theorem dX4_asReal_2 : decode cX4_asReal 2 = .ok (.if_icmp .ne 11, 3) := by decide +kernel
theorem dX4_asReal_5 : decode cX4_asReal 5 = .ok (.aload_n 0, 1) := by decide +kernel
theorem dX4_asReal_6 : decode cX4_asReal 6 = .ok (.invokevirtual 27, 3) := by decide +kernel
theorem dX4_asReal_9 : decode cX4_asReal 9 = .ok (.f2d, 1) := by decide +kernel
theorem dX4_asReal_10 : decode cX4_asReal 10 = .ok (.goto 7, 3) := by decide +kernel
theorem dX4_asReal_13 : decode cX4_asReal 13 = .ok (.aload_n 0, 1) := by decide +kernel
theorem dX4_asReal_14 : decode cX4_asReal 14 = .ok (.invokevirtual 31, 3) := by decide +kernel
theorem dX4_asReal_17 : decode cX4_asReal 17 = .ok (.dreturn, 1) := by decide +kernel
set_option maxRecDepth 20000 in
theorem ggX4_turnInto_X4_asInt : GoodIn wsX4_turnInto wsX4_asInt := goodIn_r _ [5, 6, 7, 8, 9, 10, 4, 11, 12, 37, 38, 39] (by decide +kernel) (by decide +kernel)
set_option maxRecDepth 20000 in
theorem gX4_turnInto_X4_asInt : GoodIn wsX4_turnInto (wsV RX4 35 RX4 yX4_asInt wsX4_asInt) := goodIn_app (goodIn_of _ (by decide +kernel)) ggX4_turnInto_X4_asInt
set_option maxRecDepth 20000 in
theorem ggX4_turnInto_X4_holdWhole : GoodIn wsX4_turnInto wsX4_holdWhole := goodIn_r _ [16, 12, 6, 37, 38, 39] (by decide +kernel) (by decide +kernel)
set_option maxRecDepth 20000 in
theorem gX4_turnInto_X4_holdWhole : GoodIn wsX4_turnInto (wsV RX4 39 RX4 yX4_holdWhole wsX4_holdWhole) := goodIn_app (goodIn_of _ (by decide +kernel)) ggX4_turnInto_X4_holdWhole
set_option maxRecDepth 20000 in
theorem ggX4_turnInto_X4_asLong : GoodIn wsX4_turnInto wsX4_asLong := goodIn_r _ [20, 6, 7, 8, 9, 10, 4, 11, 12, 37, 38, 39] (by decide +kernel) (by decide +kernel)
set_option maxRecDepth 20000 in
theorem gX4_turnInto_X4_asLong : GoodIn wsX4_turnInto (wsV RX4 43 RX4 yX4_asLong wsX4_asLong) := goodIn_app (goodIn_of _ (by decide +kernel)) ggX4_turnInto_X4_asLong
set_option maxRecDepth 20000 in
theorem ggX4_turnInto_X4_asReal : GoodIn wsX4_turnInto wsX4_asReal := goodIn_r _ [24, 25, 26, 27, 4, 28, 6, 7, 8, 9, 10, 11, 12, 29, 30, 31, 32, 37, 38, 39] (by decide +kernel) (by decide +kernel)
set_option maxRecDepth 20000 in
theorem gX4_turnInto_X4_asReal : GoodIn wsX4_turnInto (wsV RX4 47 RX4 yX4_asReal wsX4_asReal) := goodIn_app (goodIn_of _ (by decide +kernel)) ggX4_turnInto_X4_asReal
set_option maxRecDepth 20000 in
theorem ggX4_turnInto_X4_holdReal : GoodIn wsX4_turnInto wsX4_holdReal := goodIn_r _ [36, 12, 7, 37, 38, 39] (by decide +kernel) (by decide +kernel)
set_option maxRecDepth 20000 in
theorem gX4_turnInto_X4_holdReal : GoodIn wsX4_turnInto (wsV RX4 51 RX4 yX4_holdReal wsX4_holdReal) := goodIn_app (goodIn_of _ (by decide +kernel)) ggX4_turnInto_X4_holdReal
theorem dX4_turnInto_0 : decode cX4_turnInto 0 = .ok (.iload_n 1, 1) := by decide +kernel
theorem dX4_turnInto_1 : decode cX4_turnInto 1 = .ok (.ifCond .ne 16, 3) := by decide +kernel
theorem dX4_turnInto_4 : decode cX4_turnInto 4 = .ok (.aload_n 0, 1) := by decide +kernel
theorem dX4_turnInto_5 : decode cX4_turnInto 5 = .ok (.iconst 0, 1) := by decide +kernel
theorem dX4_turnInto_6 : decode cX4_turnInto 6 = .ok (.aload_n 0, 1) := by decide +kernel
theorem dX4_turnInto_7 : decode cX4_turnInto 7 = .ok (.invokevirtual 35, 3) := by decide +kernel
theorem dX4_turnInto_10 : decode cX4_turnInto 10 = .ok (.i2l, 1) := by decide +kernel
theorem dX4_turnInto_11 : decode cX4_turnInto 11 = .ok (.invokevirtual 39, 3) := by decide +kernel
theorem dX4_turnInto_14 : decode cX4_turnInto 14 = .ok (.goto 30, 3) := by decide +kernel
theorem dX4_turnInto_17 : decode cX4_turnInto 17 = .ok (.iload_n 1, 1) := by decide +kernel
theorem dX4_turnInto_18 : decode cX4_turnInto 18 = .ok (.iconst 1, 1) := by decide +kernel
theorem dX4_turnInto_19 : decode cX4_turnInto 19 = .ok (.if_icmp .ne 15, 3) := by decide +kernel
theorem dX4_turnInto_22 : decode cX4_turnInto 22 = .ok (.aload_n 0, 1) := by decide +kernel
theorem dX4_turnInto_23 : decode cX4_turnInto 23 = .ok (.iconst 1, 1) := by decide +kernel
theorem dX4_turnInto_24 : decode cX4_turnInto 24 = .ok (.aload_n 0, 1) := by decide +kernel
theorem dX4_turnInto_25 : decode cX4_turnInto 25 = .ok (.invokevirtual 43, 3) := by decide +kernel
theorem dX4_turnInto_28 : decode cX4_turnInto 28 = .ok (.invokevirtual 39, 3) := by decide +kernel
theorem dX4_turnInto_31 : decode cX4_turnInto 31 = .ok (.goto 13, 3) := by decide +kernel
theorem dX4_turnInto_34 : decode cX4_turnInto 34 = .ok (.aload_n 0, 1) := by decide +kernel
theorem dX4_turnInto_35 : decode cX4_turnInto 35 = .ok (.iload_n 1, 1) := by decide +kernel
theorem dX4_turnInto_36 : decode cX4_turnInto 36 = .ok (.aload_n 0, 1) := by decide +kernel
theorem dX4_turnInto_37 : decode cX4_turnInto 37 = .ok (.iload_n 1, 1) := by decide +kernel
theorem dX4_turnInto_38 : decode cX4_turnInto 38 = .ok (.invokevirtual 47, 3) := by decide +kernel
theorem dX4_turnInto_41 : decode cX4_turnInto 41 = .ok (.invokevirtual 51, 3) := by decide +kernel
theorem dX4_turnInto_44 : decode cX4_turnInto 44 = .ok (.return_, 1) := by decide +kernel
theorem dX4_holdWhole_0 : decode cX4_holdWhole 0 = .ok (.aload_n 0, 1) := by decide +kernel
theorem dX4_holdWhole_1 : decode cX4_holdWhole 1 = .ok (.iload_n 1, 1) := by decide +kernel
theorem dX4_holdWhole_2 : decode cX4_holdWhole 2 = .ok (.putfield 9, 3) := by decide +kernel
theorem dX4_holdWhole_5 : decode cX4_holdWhole 5 = .ok (.aload_n 0, 1) := by decide +kernel
theorem dX4_holdWhole_6 : decode cX4_holdWhole 6 = .ok (.iload_n 1, 1) := by decide +kernel
theorem dX4_holdWhole_7 : decode cX4_holdWhole 7 = .ok (.ifCond .ne 9, 3) := by decide +kernel
theorem dX4_holdWhole_10 : decode cX4_holdWhole 10 = .ok (.lload_n 2, 1) := by decide +kernel
theorem dX4_holdWhole_11 : decode cX4_holdWhole 11 = .ok (.l2i, 1) := by decide +kernel
theorem dX4_holdWhole_12 : decode cX4_holdWhole 12 = .ok (.i2l, 1) := by decide +kernel
theorem dX4_holdWhole_13 : decode cX4_holdWhole 13 = .ok (.goto 4, 3) := by decide +kernel
theorem dX4_holdWhole_16 : decode cX4_holdWhole 16 = .ok (.lload_n 2, 1) := by decide +kernel
theorem dX4_holdWhole_17 : decode cX4_holdWhole 17 = .ok (.putfield 15, 3) := by decide +kernel
theorem dX4_holdWhole_20 : decode cX4_holdWhole 20 = .ok (.return_, 1) := by decide +kernel
theorem dX4_holdReal_0 : decode cX4_holdReal 0 = .ok (.aload_n 0, 1) := by decide +kernel
theorem dX4_holdReal_1 : decode cX4_holdReal 1 = .ok (.iload_n 1, 1) := by decide +kernel
theorem dX4_holdReal_2 : decode cX4_holdReal 2 = .ok (.putfield 9, 3) := by decide +kernel
theorem dX4_holdReal_5 : decode cX4_holdReal 5 = .ok (.aload_n 0, 1) := by decide +kernel
theorem dX4_holdReal_6 : decode cX4_holdReal 6 = .ok (.dload_n 2, 1) := by decide +kernel
theorem dX4_holdReal_7 : decode cX4_holdReal 7 = .ok (.putfield 19, 3) := by decide +kernel
theorem dX4_holdReal_10 : decode cX4_holdReal 10 = .ok (.return_, 1) := by decide +kernel
theorem dX5_init_0 : decode cX5_init 0 = .ok (.aload_n 0, 1) := by decide +kernel
theorem dX5_init_1 : decode cX5_init 1 = .ok (.invokespecial 3, 3) := by decide +kernel
theorem dX5_init_4 : decode cX5_init 4 = .ok (.aload_n 0, 1) := by decide +kernel
theorem dX5_init_5 : decode cX5_init 5 = .ok (.iconst (-1), 1) := by decide +kernel
theorem dX5_init_6 : decode cX5_init 6 = .ok (.putfield 9, 3) := by decide +kernel
theorem dX5_init_9 : decode cX5_init 9 = .ok (.return_, 1) := by decide +kernel
theorem dX5_lackAt_0 : decode cX5_lackAt 0 = .ok (.aload_n 0, 1) := by decide +kernel
theorem dX5_lackAt_1 : decode cX5_lackAt 1 = .ok (.getfield 9, 3) := by decide +kernel
theorem dX5_lackAt_4 : decode cX5_lackAt 4 = .ok (.iconst (-1), 1) := by decide +kernel
theorem dX5_lackAt_5 : decode cX5_lackAt 5 = .ok (.if_icmp .ne 5, 3) := by decide +kernel
theorem dX5_lackAt_8 : decode cX5_lackAt 8 = .ok (.iconst 1, 1) := by decide +kernel
theorem dX5_lackAt_9 : decode cX5_lackAt 9 = .ok (.ireturn, 1) := by decide +kernel
theorem dX5_lackAt_10 : decode cX5_lackAt 10 = .ok (.iload_n 1, 1) := by decide +kernel
theorem dX5_lackAt_11 : decode cX5_lackAt 11 = .ok (.ifCond .lt 11, 3) := by decide +kernel
theorem dX5_lackAt_14 : decode cX5_lackAt 14 = .ok (.iload_n 1, 1) := by decide +kernel
theorem dX5_lackAt_15 : decode cX5_lackAt 15 = .ok (.aload_n 0, 1) := by decide +kernel
theorem dX5_lackAt_16 : decode cX5_lackAt 16 = .ok (.getfield 9, 3) := by decide +kernel
theorem dX5_lackAt_19 : decode cX5_lackAt 19 = .ok (.if_icmp .lt 7, 3) := by decide +kernel
theorem dX5_lackAt_22 : decode cX5_lackAt 22 = .ok (.iconst 2, 1) := by decide +kernel
theorem dX5_lackAt_23 : decode cX5_lackAt 23 = .ok (.goto 4, 3) := by decide +kernel
theorem dX5_lackAt_26 : decode cX5_lackAt 26 = .ok (.iconst 0, 1) := by decide +kernel
theorem dX5_lackAt_27 : decode cX5_lackAt 27 = .ok (.ireturn, 1) := by decide +kernel
set_option maxRecDepth 20000 in
theorem ggX6_init_X5_init : GoodIn wsX6_init wsX5_init := goodIn_r _ [6, 7, 8, 9, 10, 14, 15, 16, 11, 12, 13] (by decide +kernel) (by decide +kernel)
set_option maxRecDepth 20000 in
theorem gX6_init_X5_init_n3 : GoodIn wsX6_init (wsX5_init) := ggX6_init_X5_init
theorem dX6_init_0 : decode cX6_init 0 = .ok (.aload_n 0, 1) := by decide +kernel
theorem dX6_init_1 : decode cX6_init 1 = .ok (.invokespecial 3, 3) := by decide +kernel
theorem dX6_init_4 : decode cX6_init 4 = .ok (.aload_n 0, 1) := by decide +kernel
theorem dX6_init_5 : decode cX6_init 5 = .ok (.bipush 12, 2) := by decide +kernel
theorem dX6_init_7 : decode cX6_init 7 = .ok (.anewarray 9, 3) := by decide +kernel
theorem dX6_init_10 : decode cX6_init 10 = .ok (.putfield 11, 3) := by decide +kernel
theorem dX6_init_13 : decode cX6_init 13 = .ok (.aload_n 0, 1) := by decide +kernel
theorem dX6_init_14 : decode cX6_init 14 = .ok (.iconst 0, 1) := by decide +kernel
theorem dX6_init_15 : decode cX6_init 15 = .ok (.putfield 17, 3) := by decide +kernel
theorem dX6_init_18 : decode cX6_init 18 = .ok (.return_, 1) := by decide +kernel
theorem dX6_clearRow_0 : decode cX6_clearRow 0 = .ok (.iconst 0, 1) := by decide +kernel
theorem dX6_clearRow_1 : decode cX6_clearRow 1 = .ok (.istore_n 1, 1) := by decide +kernel
theorem dX6_clearRow_2 : decode cX6_clearRow 2 = .ok (.iload_n 1, 1) := by decide +kernel
theorem dX6_clearRow_3 : decode cX6_clearRow 3 = .ok (.bipush 12, 2) := by decide +kernel
theorem dX6_clearRow_5 : decode cX6_clearRow 5 = .ok (.if_icmp .ge 16, 3) := by decide +kernel
theorem dX6_clearRow_8 : decode cX6_clearRow 8 = .ok (.aload_n 0, 1) := by decide +kernel
theorem dX6_clearRow_9 : decode cX6_clearRow 9 = .ok (.getfield 11, 3) := by decide +kernel
theorem dX6_clearRow_12 : decode cX6_clearRow 12 = .ok (.iload_n 1, 1) := by decide +kernel
theorem dX6_clearRow_13 : decode cX6_clearRow 13 = .ok (.aconst_null, 1) := by decide +kernel
theorem dX6_clearRow_14 : decode cX6_clearRow 14 = .ok (.aastore, 1) := by decide +kernel
theorem dX6_clearRow_15 : decode cX6_clearRow 15 = .ok (.iinc 1 1, 3) := by decide +kernel
theorem dX6_clearRow_18 : decode cX6_clearRow 18 = .ok (.goto (-16), 3) := by decide +kernel
theorem dX6_clearRow_21 : decode cX6_clearRow 21 = .ok (.return_, 1) := by decide +kernel
theorem dX7_init_0 : decode cX7_init 0 = .ok (.aload_n 0, 1) := by decide +kernel
theorem dX7_init_1 : decode cX7_init 1 = .ok (.invokespecial 1, 3) := by decide +kernel
theorem dX7_init_4 : decode cX7_init 4 = .ok (.aload_n 0, 1) := by decide +kernel
theorem dX7_init_5 : decode cX7_init 5 = .ok (.iload_n 1, 1) := by decide +kernel
theorem dX7_init_6 : decode cX7_init 6 = .ok (.putfield 7, 3) := by decide +kernel
theorem dX7_init_9 : decode cX7_init 9 = .ok (.aload_n 0, 1) := by decide +kernel
theorem dX7_init_10 : decode cX7_init 10 = .ok (.iload_n 2, 1) := by decide +kernel
theorem dX7_init_11 : decode cX7_init 11 = .ok (.putfield 13, 3) := by decide +kernel
theorem dX7_init_14 : decode cX7_init 14 = .ok (.aload_n 0, 1) := by decide +kernel
theorem dX7_init_15 : decode cX7_init 15 = .ok (.iload_n 3, 1) := by decide +kernel
theorem dX7_init_16 : decode cX7_init 16 = .ok (.putfield 16, 3) := by decide +kernel
theorem dX7_init_19 : decode cX7_init 19 = .ok (.return_, 1) := by decide +kernel
set_option maxRecDepth 20000 in
theorem ggX8_init_X4_init : GoodIn wsX8_init wsX4_init := goodIn_r _ [31, 32, 2, 3, 33, 34, 35, 73, 74, 75] (by decide +kernel) (by decide +kernel)
set_option maxRecDepth 20000 in
theorem gX8_init_X4_init_n56 : GoodIn wsX8_init (wsX4_init) := ggX8_init_X4_init
set_option maxRecDepth 20000 in
theorem ggX8_init_X1_init : GoodIn wsX8_init wsX1_init := goodIn_r _ [37, 38, 2, 3, 39, 40, 41, 42, 76, 77, 78, 79] (by decide +kernel) (by decide +kernel)
set_option maxRecDepth 20000 in
theorem gX8_init_X1_init_n57 : GoodIn wsX8_init (wsX1_init) := ggX8_init_X1_init
set_option maxRecDepth 20000 in
theorem ggX8_init_X3_init : GoodIn wsX8_init wsX3_init := goodIn_r _ [45, 46, 47, 48, 49, 50, 51, 52, 2, 3, 53, 80, 81, 82, 83, 84, 85] (by decide +kernel) (by decide +kernel)
set_option maxRecDepth 20000 in
theorem gX8_init_X3_init : GoodIn wsX8_init (wsX3_init) := ggX8_init_X3_init
set_option maxRecDepth 20000 in
theorem ggX8_init_X6_init : GoodIn wsX8_init wsX6_init := goodIn_r _ [55, 56, 57, 58, 49, 50, 51, 52, 2, 3, 53, 83, 84, 85, 80, 81, 82] (by decide +kernel) (by decide +kernel)
set_option maxRecDepth 20000 in
theorem gX8_init_X6_init_n61 : GoodIn wsX8_init (wsX6_init) := ggX8_init_X6_init
set_option maxRecDepth 20000 in
theorem ggX8_init_X0_init : GoodIn wsX8_init wsX0_init := goodIn_r _ [60, 61, 2, 3, 62, 63, 86, 87] (by decide +kernel) (by decide +kernel)
set_option maxRecDepth 20000 in
theorem gX8_init_X0_init_n62 : GoodIn wsX8_init (wsX0_init) := ggX8_init_X0_init
theorem dX8_init_0 : decode cX8_init 0 = .ok (.aload_n 0, 1) := by decide +kernel
theorem dX8_init_1 : decode cX8_init 1 = .ok (.invokespecial 1, 3) := by decide +kernel
theorem dX8_init_4 : decode cX8_init 4 = .ok (.aload_n 0, 1) := by decide +kernel
theorem dX8_init_5 : decode cX8_init 5 = .ok (.bipush 10, 2) := by decide +kernel
theorem dX8_init_7 : decode cX8_init 7 = .ok (.anewarray 9, 3) := by decide +kernel
theorem dX8_init_10 : decode cX8_init 10 = .ok (.putfield 11, 3) := by decide +kernel
theorem dX8_init_13 : decode cX8_init 13 = .ok (.aload_n 0, 1) := by decide +kernel
theorem dX8_init_14 : decode cX8_init 14 = .ok (.bipush 6, 2) := by decide +kernel
theorem dX8_init_16 : decode cX8_init 16 = .ok (.anewarray 15, 3) := by decide +kernel
theorem dX8_init_19 : decode cX8_init 19 = .ok (.putfield 17, 3) := by decide +kernel
theorem dX8_init_22 : decode cX8_init 22 = .ok (.aload_n 0, 1) := by decide +kernel
theorem dX8_init_23 : decode cX8_init 23 = .ok (.bipush 8, 2) := by decide +kernel
theorem dX8_init_25 : decode cX8_init 25 = .ok (.anewarray 21, 3) := by decide +kernel
theorem dX8_init_28 : decode cX8_init 28 = .ok (.putfield 23, 3) := by decide +kernel
theorem dX8_init_31 : decode cX8_init 31 = .ok (.aload_n 0, 1) := by decide +kernel
theorem dX8_init_32 : decode cX8_init 32 = .ok (.bipush 30, 2) := by decide +kernel
theorem dX8_init_34 : decode cX8_init 34 = .ok (.anewarray 27, 3) := by decide +kernel
theorem dX8_init_37 : decode cX8_init 37 = .ok (.putfield 29, 3) := by decide +kernel
theorem dX8_init_40 : decode cX8_init 40 = .ok (.aload_n 0, 1) := by decide +kernel
theorem dX8_init_41 : decode cX8_init 41 = .ok (.iconst 5, 1) := by decide +kernel
theorem dX8_init_42 : decode cX8_init 42 = .ok (.anewarray 33, 3) := by decide +kernel
theorem dX8_init_45 : decode cX8_init 45 = .ok (.putfield 35, 3) := by decide +kernel
theorem dX8_init_48 : decode cX8_init 48 = .ok (.aload_n 0, 1) := by decide +kernel
theorem dX8_init_49 : decode cX8_init 49 = .ok (.iconst 4, 1) := by decide +kernel
theorem dX8_init_50 : decode cX8_init 50 = .ok (.anewarray 39, 3) := by decide +kernel
theorem dX8_init_53 : decode cX8_init 53 = .ok (.putfield 41, 3) := by decide +kernel
theorem dX8_init_56 : decode cX8_init 56 = .ok (.aload_n 0, 1) := by decide +kernel
theorem dX8_init_57 : decode cX8_init 57 = .ok (.bipush 6, 2) := by decide +kernel
theorem dX8_init_59 : decode cX8_init 59 = .ok (.newarray .int, 2) := by decide +kernel
theorem dX8_init_61 : decode cX8_init 61 = .ok (.putfield 45, 3) := by decide +kernel
theorem dX8_init_64 : decode cX8_init 64 = .ok (.aload_n 0, 1) := by decide +kernel
theorem dX8_init_65 : decode cX8_init 65 = .ok (.iconst 0, 1) := by decide +kernel
theorem dX8_init_66 : decode cX8_init 66 = .ok (.putfield 49, 3) := by decide +kernel
theorem dX8_init_69 : decode cX8_init 69 = .ok (.aload_n 0, 1) := by decide +kernel
theorem dX8_init_70 : decode cX8_init 70 = .ok (.iconst 0, 1) := by decide +kernel
theorem dX8_init_71 : decode cX8_init 71 = .ok (.putfield 53, 3) := by decide +kernel
theorem dX8_init_74 : decode cX8_init 74 = .ok (.iconst 0, 1) := by decide +kernel
theorem dX8_init_75 : decode cX8_init 75 = .ok (.istore_n 1, 1) := by decide +kernel
theorem dX8_init_76 : decode cX8_init 76 = .ok (.iload_n 1, 1) := by decide +kernel
theorem dX8_init_77 : decode cX8_init 77 = .ok (.bipush 10, 2) := by decide +kernel
theorem dX8_init_79 : decode cX8_init 79 = .ok (.if_icmp .ge 22, 3) := by decide +kernel
theorem dX8_init_82 : decode cX8_init 82 = .ok (.aload_n 0, 1) := by decide +kernel
theorem dX8_init_83 : decode cX8_init 83 = .ok (.getfield 11, 3) := by decide +kernel
theorem dX8_init_86 : decode cX8_init 86 = .ok (.iload_n 1, 1) := by decide +kernel
theorem dX8_init_87 : decode cX8_init 87 = .ok (.new 9, 3) := by decide +kernel
theorem dX8_init_90 : decode cX8_init 90 = .ok (.dup, 1) := by decide +kernel
theorem dX8_init_91 : decode cX8_init 91 = .ok (.invokespecial 56, 3) := by decide +kernel
theorem dX8_init_94 : decode cX8_init 94 = .ok (.aastore, 1) := by decide +kernel
theorem dX8_init_95 : decode cX8_init 95 = .ok (.iinc 1 1, 3) := by decide +kernel
theorem dX8_init_98 : decode cX8_init 98 = .ok (.goto (-22), 3) := by decide +kernel
theorem dX8_init_101 : decode cX8_init 101 = .ok (.iconst 0, 1) := by decide +kernel
theorem dX8_init_102 : decode cX8_init 102 = .ok (.istore_n 1, 1) := by decide +kernel
theorem dX8_init_103 : decode cX8_init 103 = .ok (.iload_n 1, 1) := by decide +kernel
theorem dX8_init_104 : decode cX8_init 104 = .ok (.bipush 6, 2) := by decide +kernel
theorem dX8_init_106 : decode cX8_init 106 = .ok (.if_icmp .ge 22, 3) := by decide +kernel
theorem dX8_init_109 : decode cX8_init 109 = .ok (.aload_n 0, 1) := by decide +kernel
theorem dX8_init_110 : decode cX8_init 110 = .ok (.getfield 17, 3) := by decide +kernel
theorem dX8_init_113 : decode cX8_init 113 = .ok (.iload_n 1, 1) := by decide +kernel
theorem dX8_init_114 : decode cX8_init 114 = .ok (.new 15, 3) := by decide +kernel
theorem dX8_init_117 : decode cX8_init 117 = .ok (.dup, 1) := by decide +kernel
theorem dX8_init_118 : decode cX8_init 118 = .ok (.invokespecial 57, 3) := by decide +kernel
theorem dX8_init_121 : decode cX8_init 121 = .ok (.aastore, 1) := by decide +kernel
theorem dX8_init_122 : decode cX8_init 122 = .ok (.iinc 1 1, 3) := by decide +kernel
theorem dX8_init_125 : decode cX8_init 125 = .ok (.goto (-22), 3) := by decide +kernel
theorem dX8_init_128 : decode cX8_init 128 = .ok (.iconst 0, 1) := by decide +kernel
theorem dX8_init_129 : decode cX8_init 129 = .ok (.istore_n 1, 1) := by decide +kernel
theorem dX8_init_130 : decode cX8_init 130 = .ok (.iload_n 1, 1) := by decide +kernel
theorem dX8_init_131 : decode cX8_init 131 = .ok (.bipush 8, 2) := by decide +kernel
theorem dX8_init_133 : decode cX8_init 133 = .ok (.if_icmp .ge 32, 3) := by decide +kernel
theorem dX8_init_136 : decode cX8_init 136 = .ok (.aload_n 0, 1) := by decide +kernel
theorem dX8_init_137 : decode cX8_init 137 = .ok (.getfield 23, 3) := by decide +kernel
theorem dX8_init_140 : decode cX8_init 140 = .ok (.iload_n 1, 1) := by decide +kernel
theorem dX8_init_141 : decode cX8_init 141 = .ok (.new 21, 3) := by decide +kernel
theorem dX8_init_144 : decode cX8_init 144 = .ok (.dup, 1) := by decide +kernel
theorem dX8_init_145 : decode cX8_init 145 = .ok (.iload_n 1, 1) := by decide +kernel
theorem dX8_init_146 : decode cX8_init 146 = .ok (.iconst 4, 1) := by decide +kernel
theorem dX8_init_147 : decode cX8_init 147 = .ok (.if_icmp .ge 7, 3) := by decide +kernel
theorem dX8_init_150 : decode cX8_init 150 = .ok (.iconst 2, 1) := by decide +kernel
theorem dX8_init_151 : decode cX8_init 151 = .ok (.goto 4, 3) := by decide +kernel
theorem dX8_init_154 : decode cX8_init 154 = .ok (.iconst 3, 1) := by decide +kernel
theorem dX8_init_155 : decode cX8_init 155 = .ok (.invokespecial 58, 3) := by decide +kernel
theorem dX8_init_158 : decode cX8_init 158 = .ok (.aastore, 1) := by decide +kernel
theorem dX8_init_159 : decode cX8_init 159 = .ok (.iinc 1 1, 3) := by decide +kernel
theorem dX8_init_162 : decode cX8_init 162 = .ok (.goto (-32), 3) := by decide +kernel
theorem dX8_init_165 : decode cX8_init 165 = .ok (.iconst 0, 1) := by decide +kernel
theorem dX8_init_166 : decode cX8_init 166 = .ok (.istore_n 1, 1) := by decide +kernel
theorem dX8_init_167 : decode cX8_init 167 = .ok (.iload_n 1, 1) := by decide +kernel
theorem dX8_init_168 : decode cX8_init 168 = .ok (.iconst 5, 1) := by decide +kernel
theorem dX8_init_169 : decode cX8_init 169 = .ok (.if_icmp .ge 22, 3) := by decide +kernel
theorem dX8_init_172 : decode cX8_init 172 = .ok (.aload_n 0, 1) := by decide +kernel
theorem dX8_init_173 : decode cX8_init 173 = .ok (.getfield 35, 3) := by decide +kernel
theorem dX8_init_176 : decode cX8_init 176 = .ok (.iload_n 1, 1) := by decide +kernel
theorem dX8_init_177 : decode cX8_init 177 = .ok (.new 33, 3) := by decide +kernel

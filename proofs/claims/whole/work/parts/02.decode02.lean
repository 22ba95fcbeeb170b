set_option maxRecDepth 20000 in
theorem ggX8_read_X8_meterOf : GoodIn wsX8_read wsX8_meterOf := goodIn_r _ [12, 13, 41, 42, 43, 44, 45, 46, 47, 48, 49] (by decide +kernel) (by decide +kernel)
set_option maxRecDepth 20000 in
theorem gX8_read_X8_meterOf : GoodIn wsX8_read (wsV RX8 63 RX8 yX8_meterOf wsX8_meterOf) := goodIn_app (goodIn_of _ (by decide +kernel)) ggX8_read_X8_meterOf
set_option maxRecDepth 20000 in
theorem ggX8_read_X5_lackAt : GoodIn wsX8_read wsX5_lackAt := goodIn_r _ [19, 20, 38, 39, 40, 50, 51, 52] (by decide +kernel) (by decide +kernel)
set_option maxRecDepth 20000 in
theorem gX8_read_X5_lackAt_u213X3 : GoodIn wsX8_read (va_wsU RX8 213 RX3 "RopeDrums$Places" ⟨"RopeDrums$Log", "lackAt", "(I)I"⟩ yX5_lackAt wsX5_lackAt) := goodIn_app (goodIn_of _ (by decide +kernel)) ggX8_read_X5_lackAt
set_option maxRecDepth 20000 in
theorem ggX8_read_X8_fail : GoodIn wsX8_read wsX8_fail := goodIn_r _ [24, 25, 26, 41, 42, 43, 44, 45, 46, 47, 48, 49] (by decide +kernel) (by decide +kernel)
set_option maxRecDepth 20000 in
theorem gX8_read_X8_fail : GoodIn wsX8_read (wsV RX8 139 RX8 yX8_fail wsX8_fail) := goodIn_app (goodIn_of _ (by decide +kernel)) ggX8_read_X8_fail
set_option maxRecDepth 20000 in
theorem ggX8_read_X4_holdReal : GoodIn wsX8_read wsX4_holdReal := goodIn_r _ [31, 32, 33, 53, 54, 55] (by decide +kernel) (by decide +kernel)
set_option maxRecDepth 20000 in
theorem gX8_read_X4_holdReal : GoodIn wsX8_read (wsV RX8 89 RX4 yX4_holdReal wsX4_holdReal) := goodIn_app (goodIn_of _ (by decide +kernel)) ggX8_read_X4_holdReal
set_option maxRecDepth 20000 in
theorem ggX8_read_X8_succeed : GoodIn wsX8_read wsX8_succeed := goodIn_r _ [37, 26, 41, 42, 43, 44, 45, 46, 47, 48, 49] (by decide +kernel) (by decide +kernel)
set_option maxRecDepth 20000 in
theorem gX8_read_X8_succeed : GoodIn wsX8_read (wsV RX8 159 RX8 yX8_succeed wsX8_succeed) := goodIn_app (goodIn_of _ (by decide +kernel)) ggX8_read_X8_succeed
theorem dX8_read_0 : decode cX8_read 0 = .ok (.aload_n 0, 1) := by decide +kernel
theorem dX8_read_1 : decode cX8_read 1 = .ok (.iload_n 1, 1) := by decide +kernel
theorem dX8_read_2 : decode cX8_read 2 = .ok (.invokevirtual 196, 3) := by decide +kernel
theorem dX8_read_5 : decode cX8_read 5 = .ok (.astore 4, 2) := by decide +kernel
theorem dX8_read_7 : decode cX8_read 7 = .ok (.aload_n 0, 1) := by decide +kernel
theorem dX8_read_8 : decode cX8_read 8 = .ok (.iload_n 3, 1) := by decide +kernel
theorem dX8_read_9 : decode cX8_read 9 = .ok (.invokevirtual 63, 3) := by decide +kernel
theorem dX8_read_12 : decode cX8_read 12 = .ok (.astore 5, 2) := by decide +kernel
theorem dX8_read_14 : decode cX8_read 14 = .ok (.aload 4, 2) := by decide +kernel
theorem dX8_read_16 : decode cX8_read 16 = .ok (.ifnull 8, 3) := by decide +kernel
theorem dX8_read_19 : decode cX8_read 19 = .ok (.aload 5, 2) := by decide +kernel
theorem dX8_read_21 : decode cX8_read 21 = .ok (.ifnonnull 7, 3) := by decide +kernel
theorem dX8_read_24 : decode cX8_read 24 = .ok (.sipush (-1001), 3) := by decide +kernel
theorem dX8_read_27 : decode cX8_read 27 = .ok (.ireturn, 1) := by decide +kernel
theorem dX8_read_28 : decode cX8_read 28 = .ok (.aload 4, 2) := by decide +kernel
theorem dX8_read_30 : decode cX8_read 30 = .ok (.iload_n 2, 1) := by decide +kernel
theorem dX8_read_31 : decode cX8_read 31 = .ok (.invokevirtual 213, 3) := by decide +kernel
theorem dX8_read_34 : decode cX8_read 34 = .ok (.istore 6, 2) := by decide +kernel
theorem dX8_read_36 : decode cX8_read 36 = .ok (.iload 6, 2) := by decide +kernel
theorem dX8_read_38 : decode cX8_read 38 = .ok (.ifCond .eq 10, 3) := by decide +kernel
theorem dX8_read_41 : decode cX8_read 41 = .ok (.aload_n 0, 1) := by decide +kernel
theorem dX8_read_42 : decode cX8_read 42 = .ok (.iload 6, 2) := by decide +kernel
theorem dX8_read_44 : decode cX8_read 44 = .ok (.invokevirtual 139, 3) := by decide +kernel
theorem dX8_read_47 : decode cX8_read 47 = .ok (.ireturn, 1) := by decide +kernel
theorem dX8_read_48 : decode cX8_read 48 = .ok (.aload 5, 2) := by decide +kernel
theorem dX8_read_50 : decode cX8_read 50 = .ok (.aload 4, 2) := by decide +kernel
theorem dX8_read_52 : decode cX8_read 52 = .ok (.getfield 216, 3) := by decide +kernel
theorem dX8_read_55 : decode cX8_read 55 = .ok (.aload 4, 2) := by decide +kernel
theorem dX8_read_57 : decode cX8_read 57 = .ok (.getfield 200, 3) := by decide +kernel
theorem dX8_read_60 : decode cX8_read 60 = .ok (.iload_n 2, 1) := by decide +kernel
theorem dX8_read_61 : decode cX8_read 61 = .ok (.daload, 1) := by decide +kernel
theorem dX8_read_62 : decode cX8_read 62 = .ok (.invokevirtual 89, 3) := by decide +kernel
theorem dX8_read_65 : decode cX8_read 65 = .ok (.aload_n 0, 1) := by decide +kernel
theorem dX8_read_66 : decode cX8_read 66 = .ok (.aload 4, 2) := by decide +kernel
theorem dX8_read_68 : decode cX8_read 68 = .ok (.getfield 216, 3) := by decide +kernel
theorem dX8_read_71 : decode cX8_read 71 = .ok (.invokevirtual 159, 3) := by decide +kernel
theorem dX8_read_74 : decode cX8_read 74 = .ok (.ireturn, 1) := by decide +kernel
set_option maxRecDepth 20000 in
theorem ggX8_rest_X8_logOf : GoodIn wsX8_rest wsX8_logOf := goodIn_r _ [10, 11, 76, 77, 78, 79, 80, 81, 82, 83, 84] (by decide +kernel) (by decide +kernel)
set_option maxRecDepth 20000 in
theorem gX8_rest_X8_logOf : GoodIn wsX8_rest (wsV RX8 196 RX8 yX8_logOf wsX8_logOf) := goodIn_app (goodIn_of _ (by decide +kernel)) ggX8_rest_X8_logOf
set_option maxRecDepth 20000 in
theorem ggX8_rest_X5_lackAt : GoodIn wsX8_rest wsX5_lackAt := goodIn_r _ [17, 18, 73, 74, 75, 85, 86, 87] (by decide +kernel) (by decide +kernel)
set_option maxRecDepth 20000 in
theorem gX8_rest_X5_lackAt_u213X3 : GoodIn wsX8_rest (va_wsU RX8 213 RX3 "RopeDrums$Places" ⟨"RopeDrums$Log", "lackAt", "(I)I"⟩ yX5_lackAt wsX5_lackAt) := goodIn_app (goodIn_of _ (by decide +kernel)) ggX8_rest_X5_lackAt
set_option maxRecDepth 20000 in
theorem ggX8_rest_X8_fail : GoodIn wsX8_rest wsX8_fail := goodIn_r _ [22, 23, 24, 76, 77, 78, 79, 80, 81, 82, 83, 84] (by decide +kernel) (by decide +kernel)
set_option maxRecDepth 20000 in
theorem gX8_rest_X8_fail : GoodIn wsX8_rest (wsV RX8 139 RX8 yX8_fail wsX8_fail) := goodIn_app (goodIn_of _ (by decide +kernel)) ggX8_rest_X8_fail
set_option maxRecDepth 20000 in
theorem ggX8_rest_X8_isVoid : GoodIn wsX8_rest wsX8_isVoid := goodIn_r _ [27, 28, 29, 9, 30, 31] (by decide +kernel) (by decide +kernel)
set_option maxRecDepth 20000 in
theorem gX8_rest_X8_isVoid : GoodIn wsX8_rest (va_wsS RX8 135 yX8_isVoid wsX8_isVoid) := goodIn_app (goodIn_of _ (by decide +kernel)) ggX8_rest_X8_isVoid
set_option maxRecDepth 20000 in
theorem ggX8_rest_X8_leftOf : GoodIn wsX8_rest wsX8_leftOf := goodIn_r _ [34, 35, 36, 37, 3, 38, 28, 29, 9, 30, 31, 39, 40, 41, 42, 43, 44, 45, 46, 47, 48, 49, 50, 51, 52, 53, 54, 55, 56, 57, 58, 59, 60, 61, 62, 63, 64, 65, 66, 67, 2, 4, 68] (by decide +kernel) (by decide +kernel)
set_option maxRecDepth 20000 in
theorem gX8_rest_X8_leftOf : GoodIn wsX8_rest (va_wsS RX8 190 yX8_leftOf wsX8_leftOf) := goodIn_app (goodIn_of _ (by decide +kernel)) ggX8_rest_X8_leftOf
set_option maxRecDepth 20000 in
theorem ggX8_rest_X8_succeed : GoodIn wsX8_rest wsX8_succeed := goodIn_r _ [72, 24, 76, 77, 78, 79, 80, 81, 82, 83, 84] (by decide +kernel) (by decide +kernel)
set_option maxRecDepth 20000 in
theorem gX8_rest_X8_succeed : GoodIn wsX8_rest (wsV RX8 159 RX8 yX8_succeed wsX8_succeed) := goodIn_app (goodIn_of _ (by decide +kernel)) ggX8_rest_X8_succeed
theorem dX8_rest_0 : decode cX8_rest 0 = .ok (.aload_n 0, 1) := by decide +kernel
theorem dX8_rest_1 : decode cX8_rest 1 = .ok (.iload_n 1, 1) := by decide +kernel
theorem dX8_rest_2 : decode cX8_rest 2 = .ok (.invokevirtual 196, 3) := by decide +kernel
theorem dX8_rest_5 : decode cX8_rest 5 = .ok (.astore 4, 2) := by decide +kernel
theorem dX8_rest_7 : decode cX8_rest 7 = .ok (.aload 4, 2) := by decide +kernel
theorem dX8_rest_9 : decode cX8_rest 9 = .ok (.ifnonnull 7, 3) := by decide +kernel
theorem dX8_rest_12 : decode cX8_rest 12 = .ok (.sipush (-1001), 3) := by decide +kernel
theorem dX8_rest_15 : decode cX8_rest 15 = .ok (.ireturn, 1) := by decide +kernel
theorem dX8_rest_16 : decode cX8_rest 16 = .ok (.aload 4, 2) := by decide +kernel
theorem dX8_rest_18 : decode cX8_rest 18 = .ok (.iload_n 2, 1) := by decide +kernel
theorem dX8_rest_19 : decode cX8_rest 19 = .ok (.invokevirtual 213, 3) := by decide +kernel
theorem dX8_rest_22 : decode cX8_rest 22 = .ok (.aload 4, 2) := by decide +kernel
theorem dX8_rest_24 : decode cX8_rest 24 = .ok (.iload_n 3, 1) := by decide +kernel
theorem dX8_rest_25 : decode cX8_rest 25 = .ok (.invokevirtual 213, 3) := by decide +kernel
theorem dX8_rest_28 : decode cX8_rest 28 = .ok (.invokestatic 117, 3) := by decide +kernel
theorem dX8_rest_31 : decode cX8_rest 31 = .ok (.istore 5, 2) := by decide +kernel
theorem dX8_rest_33 : decode cX8_rest 33 = .ok (.iload 5, 2) := by decide +kernel
theorem dX8_rest_35 : decode cX8_rest 35 = .ok (.ifCond .eq 10, 3) := by decide +kernel
theorem dX8_rest_38 : decode cX8_rest 38 = .ok (.aload_n 0, 1) := by decide +kernel
theorem dX8_rest_39 : decode cX8_rest 39 = .ok (.iload 5, 2) := by decide +kernel
theorem dX8_rest_41 : decode cX8_rest 41 = .ok (.invokevirtual 139, 3) := by decide +kernel
theorem dX8_rest_44 : decode cX8_rest 44 = .ok (.ireturn, 1) := by decide +kernel
theorem dX8_rest_45 : decode cX8_rest 45 = .ok (.iconst 4, 1) := by decide +kernel
theorem dX8_rest_46 : decode cX8_rest 46 = .ok (.aload 4, 2) := by decide +kernel
theorem dX8_rest_48 : decode cX8_rest 48 = .ok (.getfield 200, 3) := by decide +kernel
theorem dX8_rest_51 : decode cX8_rest 51 = .ok (.iload_n 2, 1) := by decide +kernel
theorem dX8_rest_52 : decode cX8_rest 52 = .ok (.daload, 1) := by decide +kernel
theorem dX8_rest_53 : decode cX8_rest 53 = .ok (.aload 4, 2) := by decide +kernel
theorem dX8_rest_55 : decode cX8_rest 55 = .ok (.getfield 200, 3) := by decide +kernel
theorem dX8_rest_58 : decode cX8_rest 58 = .ok (.iload_n 3, 1) := by decide +kernel
theorem dX8_rest_59 : decode cX8_rest 59 = .ok (.daload, 1) := by decide +kernel
theorem dX8_rest_60 : decode cX8_rest 60 = .ok (.invokestatic 135, 3) := by decide +kernel
theorem dX8_rest_63 : decode cX8_rest 63 = .ok (.ifCond .eq 9, 3) := by decide +kernel
theorem dX8_rest_66 : decode cX8_rest 66 = .ok (.aload_n 0, 1) := by decide +kernel
theorem dX8_rest_67 : decode cX8_rest 67 = .ok (.iconst 5, 1) := by decide +kernel
theorem dX8_rest_68 : decode cX8_rest 68 = .ok (.invokevirtual 139, 3) := by decide +kernel
theorem dX8_rest_71 : decode cX8_rest 71 = .ok (.ireturn, 1) := by decide +kernel
theorem dX8_rest_72 : decode cX8_rest 72 = .ok (.aload 4, 2) := by decide +kernel
theorem dX8_rest_74 : decode cX8_rest 74 = .ok (.getfield 200, 3) := by decide +kernel
theorem dX8_rest_77 : decode cX8_rest 77 = .ok (.iload_n 2, 1) := by decide +kernel
theorem dX8_rest_78 : decode cX8_rest 78 = .ok (.aload 4, 2) := by decide +kernel
theorem dX8_rest_80 : decode cX8_rest 80 = .ok (.getfield 200, 3) := by decide +kernel
theorem dX8_rest_83 : decode cX8_rest 83 = .ok (.iload_n 2, 1) := by decide +kernel
theorem dX8_rest_84 : decode cX8_rest 84 = .ok (.daload, 1) := by decide +kernel
theorem dX8_rest_85 : decode cX8_rest 85 = .ok (.aload 4, 2) := by decide +kernel
theorem dX8_rest_87 : decode cX8_rest 87 = .ok (.getfield 200, 3) := by decide +kernel
theorem dX8_rest_90 : decode cX8_rest 90 = .ok (.iload_n 3, 1) := by decide +kernel
theorem dX8_rest_91 : decode cX8_rest 91 = .ok (.daload, 1) := by decide +kernel
theorem dX8_rest_92 : decode cX8_rest 92 = .ok (.invokestatic 190, 3) := by decide +kernel
theorem dX8_rest_95 : decode cX8_rest 95 = .ok (.dastore, 1) := by decide +kernel
theorem dX8_rest_96 : decode cX8_rest 96 = .ok (.aload_n 0, 1) := by decide +kernel
theorem dX8_rest_97 : decode cX8_rest 97 = .ok (.iconst 1, 1) := by decide +kernel
theorem dX8_rest_98 : decode cX8_rest 98 = .ok (.invokevirtual 159, 3) := by decide +kernel
theorem dX8_rest_101 : decode cX8_rest 101 = .ok (.ireturn, 1) := by decide +kernel
set_option maxRecDepth 20000 in
theorem ggX8_copy_X8_logOf : GoodIn wsX8_copy wsX8_logOf := goodIn_r _ [6, 7, 32, 33, 34, 35, 36, 37, 38, 39, 40] (by decide +kernel) (by decide +kernel)
set_option maxRecDepth 20000 in
theorem gX8_copy_X8_logOf : GoodIn wsX8_copy (wsV RX8 196 RX8 yX8_logOf wsX8_logOf) := goodIn_app (goodIn_of _ (by decide +kernel)) ggX8_copy_X8_logOf
set_option maxRecDepth 20000 in
theorem ggX8_copy_X8_copyPlaces : GoodIn wsX8_copy wsX8_copyPlaces := goodIn_r _ [11, 12, 13, 14, 15, 16, 17, 18, 1, 19, 20, 21, 5, 22, 23, 24, 25, 26, 27, 28, 29, 30, 31, 41, 42, 43, 32, 33, 34, 35, 36, 37, 38, 39, 40] (by decide +kernel) (by decide +kernel)
set_option maxRecDepth 20000 in
theorem gX8_copy_X8_copyPlaces : GoodIn wsX8_copy (wsV RX8 217 RX8 yX8_copyPlaces wsX8_copyPlaces) := goodIn_app (goodIn_of _ (by decide +kernel)) ggX8_copy_X8_copyPlaces
theorem dX8_copy_0 : decode cX8_copy 0 = .ok (.aload_n 0, 1) := by decide +kernel
theorem dX8_copy_1 : decode cX8_copy 1 = .ok (.iload_n 1, 1) := by decide +kernel
theorem dX8_copy_2 : decode cX8_copy 2 = .ok (.invokevirtual 196, 3) := by decide +kernel
theorem dX8_copy_5 : decode cX8_copy 5 = .ok (.astore 4, 2) := by decide +kernel
theorem dX8_copy_7 : decode cX8_copy 7 = .ok (.aload_n 0, 1) := by decide +kernel
theorem dX8_copy_8 : decode cX8_copy 8 = .ok (.iload_n 2, 1) := by decide +kernel
theorem dX8_copy_9 : decode cX8_copy 9 = .ok (.invokevirtual 196, 3) := by decide +kernel
theorem dX8_copy_12 : decode cX8_copy 12 = .ok (.astore 5, 2) := by decide +kernel
theorem dX8_copy_14 : decode cX8_copy 14 = .ok (.aload 4, 2) := by decide +kernel
theorem dX8_copy_16 : decode cX8_copy 16 = .ok (.ifnull 8, 3) := by decide +kernel
theorem dX8_copy_19 : decode cX8_copy 19 = .ok (.aload 5, 2) := by decide +kernel
theorem dX8_copy_21 : decode cX8_copy 21 = .ok (.ifnonnull 7, 3) := by decide +kernel
theorem dX8_copy_24 : decode cX8_copy 24 = .ok (.sipush (-1001), 3) := by decide +kernel
theorem dX8_copy_27 : decode cX8_copy 27 = .ok (.ireturn, 1) := by decide +kernel
theorem dX8_copy_28 : decode cX8_copy 28 = .ok (.aload 4, 2) := by decide +kernel
theorem dX8_copy_30 : decode cX8_copy 30 = .ok (.getfield 216, 3) := by decide +kernel
theorem dX8_copy_33 : decode cX8_copy 33 = .ok (.iconst 3, 1) := by decide +kernel
theorem dX8_copy_34 : decode cX8_copy 34 = .ok (.if_icmp .ne 12, 3) := by decide +kernel
theorem dX8_copy_37 : decode cX8_copy 37 = .ok (.aload 5, 2) := by decide +kernel
theorem dX8_copy_39 : decode cX8_copy 39 = .ok (.getfield 216, 3) := by decide +kernel
theorem dX8_copy_42 : decode cX8_copy 42 = .ok (.iconst 2, 1) := by decide +kernel
theorem dX8_copy_43 : decode cX8_copy 43 = .ok (.if_icmp .eq 7, 3) := by decide +kernel
theorem dX8_copy_46 : decode cX8_copy 46 = .ok (.sipush (-1001), 3) := by decide +kernel
theorem dX8_copy_49 : decode cX8_copy 49 = .ok (.ireturn, 1) := by decide +kernel
theorem dX8_copy_50 : decode cX8_copy 50 = .ok (.iload_n 3, 1) := by decide +kernel
theorem dX8_copy_51 : decode cX8_copy 51 = .ok (.ifCond .eq 14, 3) := by decide +kernel
theorem dX8_copy_54 : decode cX8_copy 54 = .ok (.aload_n 0, 1) := by decide +kernel
theorem dX8_copy_55 : decode cX8_copy 55 = .ok (.aload 5, 2) := by decide +kernel
theorem dX8_copy_57 : decode cX8_copy 57 = .ok (.aload 4, 2) := by decide +kernel
theorem dX8_copy_59 : decode cX8_copy 59 = .ok (.invokevirtual 217, 3) := by decide +kernel
theorem dX8_copy_62 : decode cX8_copy 62 = .ok (.goto 11, 3) := by decide +kernel
theorem dX8_copy_65 : decode cX8_copy 65 = .ok (.aload_n 0, 1) := by decide +kernel
theorem dX8_copy_66 : decode cX8_copy 66 = .ok (.aload 4, 2) := by decide +kernel
theorem dX8_copy_68 : decode cX8_copy 68 = .ok (.aload 5, 2) := by decide +kernel
theorem dX8_copy_70 : decode cX8_copy 70 = .ok (.invokevirtual 217, 3) := by decide +kernel
theorem dX8_copy_73 : decode cX8_copy 73 = .ok (.ireturn, 1) := by decide +kernel
set_option maxRecDepth 20000 in
theorem ggX8_copyPlaces_X8_fail : GoodIn wsX8_copyPlaces wsX8_fail := goodIn_r _ [13, 14, 15, 26, 27, 28, 29, 30, 31, 32, 33, 34] (by decide +kernel) (by decide +kernel)
set_option maxRecDepth 20000 in
theorem gX8_copyPlaces_X8_fail : GoodIn wsX8_copyPlaces (wsV RX8 139 RX8 yX8_fail wsX8_fail) := goodIn_app (goodIn_of _ (by decide +kernel)) ggX8_copyPlaces_X8_fail
set_option maxRecDepth 20000 in
theorem ggX8_copyPlaces_X8_succeed : GoodIn wsX8_copyPlaces wsX8_succeed := goodIn_r _ [19, 15, 26, 27, 28, 29, 30, 31, 32, 33, 34] (by decide +kernel) (by decide +kernel)
set_option maxRecDepth 20000 in
theorem gX8_copyPlaces_X8_succeed : GoodIn wsX8_copyPlaces (wsV RX8 159 RX8 yX8_succeed wsX8_succeed) := goodIn_app (goodIn_of _ (by decide +kernel)) ggX8_copyPlaces_X8_succeed
theorem dX8_copyPlaces_0 : decode cX8_copyPlaces 0 = .ok (.aload_n 1, 1) := by decide +kernel
theorem dX8_copyPlaces_1 : decode cX8_copyPlaces 1 = .ok (.getfield 210, 3) := by decide +kernel
theorem dX8_copyPlaces_4 : decode cX8_copyPlaces 4 = .ok (.iconst (-1), 1) := by decide +kernel
theorem dX8_copyPlaces_5 : decode cX8_copyPlaces 5 = .ok (.if_icmp .ne 9, 3) := by decide +kernel
theorem dX8_copyPlaces_8 : decode cX8_copyPlaces 8 = .ok (.aload_n 0, 1) := by decide +kernel
theorem dX8_copyPlaces_9 : decode cX8_copyPlaces 9 = .ok (.iconst 1, 1) := by decide +kernel
theorem dX8_copyPlaces_10 : decode cX8_copyPlaces 10 = .ok (.invokevirtual 139, 3) := by decide +kernel
theorem dX8_copyPlaces_13 : decode cX8_copyPlaces 13 = .ok (.ireturn, 1) := by decide +kernel
theorem dX8_copyPlaces_14 : decode cX8_copyPlaces 14 = .ok (.aload_n 1, 1) := by decide +kernel
theorem dX8_copyPlaces_15 : decode cX8_copyPlaces 15 = .ok (.getfield 210, 3) := by decide +kernel
theorem dX8_copyPlaces_18 : decode cX8_copyPlaces 18 = .ok (.ifCond .ne 9, 3) := by decide +kernel
theorem dX8_copyPlaces_21 : decode cX8_copyPlaces 21 = .ok (.aload_n 0, 1) := by decide +kernel
theorem dX8_copyPlaces_22 : decode cX8_copyPlaces 22 = .ok (.iconst 0, 1) := by decide +kernel
theorem dX8_copyPlaces_23 : decode cX8_copyPlaces 23 = .ok (.invokevirtual 159, 3) := by decide +kernel
theorem dX8_copyPlaces_26 : decode cX8_copyPlaces 26 = .ok (.ireturn, 1) := by decide +kernel
theorem dX8_copyPlaces_27 : decode cX8_copyPlaces 27 = .ok (.aload_n 2, 1) := by decide +kernel
theorem dX8_copyPlaces_28 : decode cX8_copyPlaces 28 = .ok (.getfield 210, 3) := by decide +kernel
theorem dX8_copyPlaces_31 : decode cX8_copyPlaces 31 = .ok (.iconst (-1), 1) := by decide +kernel
theorem dX8_copyPlaces_32 : decode cX8_copyPlaces 32 = .ok (.if_icmp .ne 9, 3) := by decide +kernel
theorem dX8_copyPlaces_35 : decode cX8_copyPlaces 35 = .ok (.aload_n 0, 1) := by decide +kernel
theorem dX8_copyPlaces_36 : decode cX8_copyPlaces 36 = .ok (.iconst 1, 1) := by decide +kernel
theorem dX8_copyPlaces_37 : decode cX8_copyPlaces 37 = .ok (.invokevirtual 139, 3) := by decide +kernel
theorem dX8_copyPlaces_40 : decode cX8_copyPlaces 40 = .ok (.ireturn, 1) := by decide +kernel
theorem dX8_copyPlaces_41 : decode cX8_copyPlaces 41 = .ok (.aload_n 1, 1) := by decide +kernel
theorem dX8_copyPlaces_42 : decode cX8_copyPlaces 42 = .ok (.getfield 210, 3) := by decide +kernel
theorem dX8_copyPlaces_45 : decode cX8_copyPlaces 45 = .ok (.aload_n 2, 1) := by decide +kernel
theorem dX8_copyPlaces_46 : decode cX8_copyPlaces 46 = .ok (.getfield 210, 3) := by decide +kernel
theorem dX8_copyPlaces_49 : decode cX8_copyPlaces 49 = .ok (.invokestatic 221, 3) := by decide +kernel
theorem dX8_copyPlaces_52 : decode cX8_copyPlaces 52 = .ok (.istore_n 3, 1) := by decide +kernel
theorem dX8_copyPlaces_53 : decode cX8_copyPlaces 53 = .ok (.iconst 0, 1) := by decide +kernel
theorem dX8_copyPlaces_54 : decode cX8_copyPlaces 54 = .ok (.istore 4, 2) := by decide +kernel
theorem dX8_copyPlaces_56 : decode cX8_copyPlaces 56 = .ok (.iload 4, 2) := by decide +kernel
theorem dX8_copyPlaces_58 : decode cX8_copyPlaces 58 = .ok (.iload_n 3, 1) := by decide +kernel
theorem dX8_copyPlaces_59 : decode cX8_copyPlaces 59 = .ok (.if_icmp .ge 42, 3) := by decide +kernel
theorem dX8_copyPlaces_62 : decode cX8_copyPlaces 62 = .ok (.aload_n 1, 1) := by decide +kernel
theorem dX8_copyPlaces_63 : decode cX8_copyPlaces 63 = .ok (.getfield 200, 3) := by decide +kernel
theorem dX8_copyPlaces_66 : decode cX8_copyPlaces 66 = .ok (.iload 4, 2) := by decide +kernel
theorem dX8_copyPlaces_68 : decode cX8_copyPlaces 68 = .ok (.daload, 1) := by decide +kernel
theorem dX8_copyPlaces_69 : decode cX8_copyPlaces 69 = .ok (.dstore 5, 2) := by decide +kernel
theorem dX8_copyPlaces_71 : decode cX8_copyPlaces 71 = .ok (.aload_n 2, 1) := by decide +kernel
theorem dX8_copyPlaces_72 : decode cX8_copyPlaces 72 = .ok (.getfield 200, 3) := by decide +kernel
theorem dX8_copyPlaces_75 : decode cX8_copyPlaces 75 = .ok (.iload 4, 2) := by decide +kernel
theorem dX8_copyPlaces_77 : decode cX8_copyPlaces 77 = .ok (.aload_n 2, 1) := by decide +kernel
theorem dX8_copyPlaces_78 : decode cX8_copyPlaces 78 = .ok (.getfield 216, 3) := by decide +kernel
theorem dX8_copyPlaces_81 : decode cX8_copyPlaces 81 = .ok (.iconst 2, 1) := by decide +kernel
theorem dX8_copyPlaces_82 : decode cX8_copyPlaces 82 = .ok (.if_icmp .ne 10, 3) := by decide +kernel
theorem dX8_copyPlaces_85 : decode cX8_copyPlaces 85 = .ok (.dload 5, 2) := by decide +kernel
theorem dX8_copyPlaces_87 : decode cX8_copyPlaces 87 = .ok (.d2f, 1) := by decide +kernel
theorem dX8_copyPlaces_88 : decode cX8_copyPlaces 88 = .ok (.f2d, 1) := by decide +kernel
theorem dX8_copyPlaces_89 : decode cX8_copyPlaces 89 = .ok (.goto 5, 3) := by decide +kernel
theorem dX8_copyPlaces_92 : decode cX8_copyPlaces 92 = .ok (.dload 5, 2) := by decide +kernel
theorem dX8_copyPlaces_94 : decode cX8_copyPlaces 94 = .ok (.dastore, 1) := by decide +kernel
theorem dX8_copyPlaces_95 : decode cX8_copyPlaces 95 = .ok (.iinc 4 1, 3) := by decide +kernel
theorem dX8_copyPlaces_98 : decode cX8_copyPlaces 98 = .ok (.goto (-42), 3) := by decide +kernel
theorem dX8_copyPlaces_101 : decode cX8_copyPlaces 101 = .ok (.iload_n 3, 1) := by decide +kernel
theorem dX8_copyPlaces_102 : decode cX8_copyPlaces 102 = .ok (.aload_n 1, 1) := by decide +kernel
theorem dX8_copyPlaces_103 : decode cX8_copyPlaces 103 = .ok (.getfield 210, 3) := by decide +kernel
theorem dX8_copyPlaces_106 : decode cX8_copyPlaces 106 = .ok (.if_icmp .ge 11, 3) := by decide +kernel
theorem dX8_copyPlaces_109 : decode cX8_copyPlaces 109 = .ok (.aload_n 0, 1) := by decide +kernel
theorem dX8_copyPlaces_110 : decode cX8_copyPlaces 110 = .ok (.iconst 2, 1) := by decide +kernel
theorem dX8_copyPlaces_111 : decode cX8_copyPlaces 111 = .ok (.invokevirtual 139, 3) := by decide +kernel
theorem dX8_copyPlaces_114 : decode cX8_copyPlaces 114 = .ok (.pop, 1) := by decide +kernel
theorem dX8_copyPlaces_115 : decode cX8_copyPlaces 115 = .ok (.iload_n 3, 1) := by decide +kernel
theorem dX8_copyPlaces_116 : decode cX8_copyPlaces 116 = .ok (.ireturn, 1) := by decide +kernel
theorem dX8_copyPlaces_117 : decode cX8_copyPlaces 117 = .ok (.aload_n 0, 1) := by decide +kernel
theorem dX8_copyPlaces_118 : decode cX8_copyPlaces 118 = .ok (.iload_n 3, 1) := by decide +kernel
theorem dX8_copyPlaces_119 : decode cX8_copyPlaces 119 = .ok (.invokevirtual 159, 3) := by decide +kernel
theorem dX8_copyPlaces_122 : decode cX8_copyPlaces 122 = .ok (.ireturn, 1) := by decide +kernel
set_option maxRecDepth 20000 in
theorem ggX8_whole_X8_logOf : GoodIn wsX8_whole wsX8_logOf := goodIn_r _ [6, 7, 28, 29, 30, 31, 32, 33, 34, 35, 36] (by decide +kernel) (by decide +kernel)
set_option maxRecDepth 20000 in
theorem gX8_whole_X8_logOf : GoodIn wsX8_whole (wsV RX8 196 RX8 yX8_logOf wsX8_logOf) := goodIn_app (goodIn_of _ (by decide +kernel)) ggX8_whole_X8_logOf
set_option maxRecDepth 20000 in
theorem ggX8_whole_X5_lackAt : GoodIn wsX8_whole wsX5_lackAt := goodIn_r _ [13, 14, 25, 26, 27, 37, 38, 39] (by decide +kernel) (by decide +kernel)
set_option maxRecDepth 20000 in
theorem gX8_whole_X5_lackAt_u213X3 : GoodIn wsX8_whole (va_wsU RX8 213 RX3 "RopeDrums$Places" ⟨"RopeDrums$Log", "lackAt", "(I)I"⟩ yX5_lackAt wsX5_lackAt) := goodIn_app (goodIn_of _ (by decide +kernel)) ggX8_whole_X5_lackAt
set_option maxRecDepth 20000 in
theorem ggX8_whole_X8_fail : GoodIn wsX8_whole wsX8_fail := goodIn_r _ [18, 19, 20, 28, 29, 30, 31, 32, 33, 34, 35, 36] (by decide +kernel) (by decide +kernel)
set_option maxRecDepth 20000 in
theorem gX8_whole_X8_fail : GoodIn wsX8_whole (wsV RX8 139 RX8 yX8_fail wsX8_fail) := goodIn_app (goodIn_of _ (by decide +kernel)) ggX8_whole_X8_fail
set_option maxRecDepth 20000 in
theorem ggX8_whole_X8_succeed : GoodIn wsX8_whole wsX8_succeed := goodIn_r _ [24, 20, 28, 29, 30, 31, 32, 33, 34, 35, 36] (by decide +kernel) (by decide +kernel)
set_option maxRecDepth 20000 in
theorem gX8_whole_X8_succeed : GoodIn wsX8_whole (wsV RX8 159 RX8 yX8_succeed wsX8_succeed) := goodIn_app (goodIn_of _ (by decide +kernel)) ggX8_whole_X8_succeed
theorem dX8_whole_0 : decode cX8_whole 0 = .ok (.aload_n 0, 1) := by decide +kernel
theorem dX8_whole_1 : decode cX8_whole 1 = .ok (.iload_n 1, 1) := by decide +kernel
theorem dX8_whole_2 : decode cX8_whole 2 = .ok (.invokevirtual 196, 3) := by decide +kernel
theorem dX8_whole_5 : decode cX8_whole 5 = .ok (.astore_n 3, 1) := by decide +kernel
theorem dX8_whole_6 : decode cX8_whole 6 = .ok (.aload_n 3, 1) := by decide +kernel
theorem dX8_whole_7 : decode cX8_whole 7 = .ok (.ifnonnull 5, 3) := by decide +kernel
theorem dX8_whole_10 : decode cX8_whole 10 = .ok (.lconst 0, 1) := by decide +kernel
theorem dX8_whole_11 : decode cX8_whole 11 = .ok (.lreturn, 1) := by decide +kernel
theorem dX8_whole_12 : decode cX8_whole 12 = .ok (.aload_n 3, 1) := by decide +kernel
theorem dX8_whole_13 : decode cX8_whole 13 = .ok (.iload_n 2, 1) := by decide +kernel
theorem dX8_whole_14 : decode cX8_whole 14 = .ok (.invokevirtual 213, 3) := by decide +kernel
theorem dX8_whole_17 : decode cX8_whole 17 = .ok (.istore 4, 2) := by decide +kernel
theorem dX8_whole_19 : decode cX8_whole 19 = .ok (.iload 4, 2) := by decide +kernel
theorem dX8_whole_21 : decode cX8_whole 21 = .ok (.ifCond .eq 12, 3) := by decide +kernel
theorem dX8_whole_24 : decode cX8_whole 24 = .ok (.aload_n 0, 1) := by decide +kernel
theorem dX8_whole_25 : decode cX8_whole 25 = .ok (.iload 4, 2) := by decide +kernel
theorem dX8_whole_27 : decode cX8_whole 27 = .ok (.invokevirtual 139, 3) := by decide +kernel
theorem dX8_whole_30 : decode cX8_whole 30 = .ok (.pop, 1) := by decide +kernel
theorem dX8_whole_31 : decode cX8_whole 31 = .ok (.lconst 0, 1) := by decide +kernel
theorem dX8_whole_32 : decode cX8_whole 32 = .ok (.lreturn, 1) := by decide +kernel
theorem dX8_whole_33 : decode cX8_whole 33 = .ok (.aload_n 0, 1) := by decide +kernel
theorem dX8_whole_34 : decode cX8_whole 34 = .ok (.iconst 1, 1) := by decide +kernel
theorem dX8_whole_35 : decode cX8_whole 35 = .ok (.invokevirtual 159, 3) := by decide +kernel
theorem dX8_whole_38 : decode cX8_whole 38 = .ok (.pop, 1) := by decide +kernel
theorem dX8_whole_39 : decode cX8_whole 39 = .ok (.aload_n 3, 1) := by decide +kernel
theorem dX8_whole_40 : decode cX8_whole 40 = .ok (.getfield 200, 3) := by decide +kernel
theorem dX8_whole_43 : decode cX8_whole 43 = .ok (.iload_n 2, 1) := by decide +kernel
theorem dX8_whole_44 : decode cX8_whole 44 = .ok (.daload, 1) := by decide +kernel
theorem dX8_whole_45 : decode cX8_whole 45 = .ok (.d2l, 1) := by decide +kernel
theorem dX8_whole_46 : decode cX8_whole 46 = .ok (.lreturn, 1) := by decide +kernel
set_option maxRecDepth 20000 in
theorem ggX8_spool_X7_init : GoodIn wsX8_spool wsX7_init := goodIn_r _ [9, 10, 11, 12, 13, 14, 15, 25, 26, 27] (by decide +kernel) (by decide +kernel)
set_option maxRecDepth 20000 in
theorem gX8_spool_X7_init : GoodIn wsX8_spool (wsX7_init) := ggX8_spool_X7_init
theorem dX8_spool_0 : decode cX8_spool 0 = .ok (.iload_n 1, 1) := by decide +kernel
theorem dX8_spool_1 : decode cX8_spool 1 = .ok (.ifCond .lt 9, 3) := by decide +kernel
theorem dX8_spool_4 : decode cX8_spool 4 = .ok (.iload_n 1, 1) := by decide +kernel
theorem dX8_spool_5 : decode cX8_spool 5 = .ok (.ldc 224, 2) := by decide +kernel
theorem dX8_spool_7 : decode cX8_spool 7 = .ok (.if_icmp .le 7, 3) := by decide +kernel
theorem dX8_spool_10 : decode cX8_spool 10 = .ok (.sipush (-1002), 3) := by decide +kernel
theorem dX8_spool_13 : decode cX8_spool 13 = .ok (.ireturn, 1) := by decide +kernel
theorem dX8_spool_14 : decode cX8_spool 14 = .ok (.aload_n 0, 1) := by decide +kernel
theorem dX8_spool_15 : decode cX8_spool 15 = .ok (.getfield 49, 3) := by decide +kernel
theorem dX8_spool_18 : decode cX8_spool 18 = .ok (.bipush 30, 2) := by decide +kernel
theorem dX8_spool_20 : decode cX8_spool 20 = .ok (.if_icmp .lt 7, 3) := by decide +kernel
theorem dX8_spool_23 : decode cX8_spool 23 = .ok (.sipush (-1003), 3) := by decide +kernel
theorem dX8_spool_26 : decode cX8_spool 26 = .ok (.ireturn, 1) := by decide +kernel
theorem dX8_spool_27 : decode cX8_spool 27 = .ok (.aload_n 0, 1) := by decide +kernel
theorem dX8_spool_28 : decode cX8_spool 28 = .ok (.getfield 49, 3) := by decide +kernel
theorem dX8_spool_31 : decode cX8_spool 31 = .ok (.istore_n 3, 1) := by decide +kernel
theorem dX8_spool_32 : decode cX8_spool 32 = .ok (.aload_n 0, 1) := by decide +kernel
theorem dX8_spool_33 : decode cX8_spool 33 = .ok (.getfield 29, 3) := by decide +kernel
theorem dX8_spool_36 : decode cX8_spool 36 = .ok (.iload_n 3, 1) := by decide +kernel
theorem dX8_spool_37 : decode cX8_spool 37 = .ok (.new 27, 3) := by decide +kernel
theorem dX8_spool_40 : decode cX8_spool 40 = .ok (.dup, 1) := by decide +kernel
theorem dX8_spool_41 : decode cX8_spool 41 = .ok (.iload_n 3, 1) := by decide +kernel
theorem dX8_spool_42 : decode cX8_spool 42 = .ok (.iload_n 1, 1) := by decide +kernel
theorem dX8_spool_43 : decode cX8_spool 43 = .ok (.iload_n 2, 1) := by decide +kernel
theorem dX8_spool_44 : decode cX8_spool 44 = .ok (.invokespecial 225, 3) := by decide +kernel
theorem dX8_spool_47 : decode cX8_spool 47 = .ok (.aastore, 1) := by decide +kernel
theorem dX8_spool_48 : decode cX8_spool 48 = .ok (.aload_n 0, 1) := by decide +kernel
theorem dX8_spool_49 : decode cX8_spool 49 = .ok (.dup, 1) := by decide +kernel
theorem dX8_spool_50 : decode cX8_spool 50 = .ok (.getfield 49, 3) := by decide +kernel
theorem dX8_spool_53 : decode cX8_spool 53 = .ok (.iconst 1, 1) := by decide +kernel
theorem dX8_spool_54 : decode cX8_spool 54 = .ok (.iadd, 1) := by decide +kernel
theorem dX8_spool_55 : decode cX8_spool 55 = .ok (.putfield 49, 3) := by decide +kernel
theorem dX8_spool_58 : decode cX8_spool 58 = .ok (.iload_n 3, 1) := by decide +kernel
theorem dX8_spool_59 : decode cX8_spool 59 = .ok (.ireturn, 1) := by decide +kernel
set_option maxRecDepth 20000 in
theorem ggX8_rack_X8_rackOf : GoodIn wsX8_rack wsX8_rackOf := goodIn_r _ [8, 9, 22, 23, 24, 25, 26, 27, 28, 29, 30] (by decide +kernel) (by decide +kernel)
set_option maxRecDepth 20000 in
theorem gX8_rack_X8_rackOf : GoodIn wsX8_rack (wsV RX8 228 RX8 yX8_rackOf wsX8_rackOf) := goodIn_app (goodIn_of _ (by decide +kernel)) ggX8_rack_X8_rackOf
set_option maxRecDepth 20000 in
theorem ggX8_rack_X6_clearRow : GoodIn wsX8_rack wsX6_clearRow := goodIn_r _ [14, 15, 16, 17, 18] (by decide +kernel) (by decide +kernel)
set_option maxRecDepth 20000 in
theorem gX8_rack_X6_clearRow : GoodIn wsX8_rack (wsV RX8 232 RX6 yX6_clearRow wsX6_clearRow) := goodIn_app (goodIn_of _ (by decide +kernel)) ggX8_rack_X6_clearRow
theorem dX8_rack_0 : decode cX8_rack 0 = .ok (.aload_n 0, 1) := by decide +kernel
theorem dX8_rack_1 : decode cX8_rack 1 = .ok (.iload_n 1, 1) := by decide +kernel
theorem dX8_rack_2 : decode cX8_rack 2 = .ok (.invokevirtual 228, 3) := by decide +kernel
theorem dX8_rack_5 : decode cX8_rack 5 = .ok (.astore 4, 2) := by decide +kernel
theorem dX8_rack_7 : decode cX8_rack 7 = .ok (.aload 4, 2) := by decide +kernel
theorem dX8_rack_9 : decode cX8_rack 9 = .ok (.ifnonnull 7, 3) := by decide +kernel
theorem dX8_rack_12 : decode cX8_rack 12 = .ok (.sipush (-1001), 3) := by decide +kernel
theorem dX8_rack_15 : decode cX8_rack 15 = .ok (.ireturn, 1) := by decide +kernel
theorem dX8_rack_16 : decode cX8_rack 16 = .ok (.iload_n 3, 1) := by decide +kernel
theorem dX8_rack_17 : decode cX8_rack 17 = .ok (.iconst (-1), 1) := by decide +kernel
theorem dX8_rack_18 : decode cX8_rack 18 = .ok (.if_icmp .lt 9, 3) := by decide +kernel
theorem dX8_rack_21 : decode cX8_rack 21 = .ok (.iload_n 3, 1) := by decide +kernel
theorem dX8_rack_22 : decode cX8_rack 22 = .ok (.bipush 12, 2) := by decide +kernel
theorem dX8_rack_24 : decode cX8_rack 24 = .ok (.if_icmp .le 7, 3) := by decide +kernel
theorem dX8_rack_27 : decode cX8_rack 27 = .ok (.sipush (-1002), 3) := by decide +kernel
theorem dX8_rack_30 : decode cX8_rack 30 = .ok (.ireturn, 1) := by decide +kernel
theorem dX8_rack_31 : decode cX8_rack 31 = .ok (.aload 4, 2) := by decide +kernel
theorem dX8_rack_33 : decode cX8_rack 33 = .ok (.invokevirtual 232, 3) := by decide +kernel
theorem dX8_rack_36 : decode cX8_rack 36 = .ok (.aload 4, 2) := by decide +kernel
theorem dX8_rack_38 : decode cX8_rack 38 = .ok (.iload_n 2, 1) := by decide +kernel
theorem dX8_rack_39 : decode cX8_rack 39 = .ok (.putfield 235, 3) := by decide +kernel
theorem dX8_rack_42 : decode cX8_rack 42 = .ok (.aload 4, 2) := by decide +kernel
theorem dX8_rack_44 : decode cX8_rack 44 = .ok (.iload_n 3, 1) := by decide +kernel
theorem dX8_rack_45 : decode cX8_rack 45 = .ok (.putfield 239, 3) := by decide +kernel
theorem dX8_rack_48 : decode cX8_rack 48 = .ok (.iconst 1, 1) := by decide +kernel
theorem dX8_rack_49 : decode cX8_rack 49 = .ok (.ireturn, 1) := by decide +kernel
set_option maxRecDepth 20000 in
theorem ggX8_put_X8_rackOf : GoodIn wsX8_put wsX8_rackOf := goodIn_r _ [8, 9, 39, 40, 41, 42, 43, 44, 45, 46, 47] (by decide +kernel) (by decide +kernel)
set_option maxRecDepth 20000 in
theorem gX8_put_X8_rackOf : GoodIn wsX8_put (wsV RX8 228 RX8 yX8_rackOf wsX8_rackOf) := goodIn_app (goodIn_of _ (by decide +kernel)) ggX8_put_X8_rackOf
set_option maxRecDepth 20000 in
theorem ggX8_put_X8_spoolOf : GoodIn wsX8_put wsX8_spoolOf := goodIn_r _ [13, 14, 15, 39, 40, 41, 42, 43, 44, 45, 46, 47] (by decide +kernel) (by decide +kernel)
set_option maxRecDepth 20000 in
theorem gX8_put_X8_spoolOf : GoodIn wsX8_put (wsV RX8 240 RX8 yX8_spoolOf wsX8_spoolOf) := goodIn_app (goodIn_of _ (by decide +kernel)) ggX8_put_X8_spoolOf
set_option maxRecDepth 20000 in
theorem ggX8_put_X5_lackAt : GoodIn wsX8_put wsX5_lackAt := goodIn_r _ [21, 22, 48, 49, 50, 36, 37, 38] (by decide +kernel) (by decide +kernel)
set_option maxRecDepth 20000 in
theorem gX8_put_X5_lackAt_u244X6 : GoodIn wsX8_put (va_wsU RX8 244 RX6 "RopeDrums$Places" ⟨"RopeDrums$Rack", "lackAt", "(I)I"⟩ yX5_lackAt wsX5_lackAt) := goodIn_app (goodIn_of _ (by decide +kernel)) ggX8_put_X5_lackAt
set_option maxRecDepth 20000 in
theorem ggX8_put_X8_fail : GoodIn wsX8_put wsX8_fail := goodIn_r _ [26, 27, 28, 39, 40, 41, 42, 43, 44, 45, 46, 47] (by decide +kernel) (by decide +kernel)
set_option maxRecDepth 20000 in
theorem gX8_put_X8_fail : GoodIn wsX8_put (wsV RX8 139 RX8 yX8_fail wsX8_fail) := goodIn_app (goodIn_of _ (by decide +kernel)) ggX8_put_X8_fail
set_option maxRecDepth 20000 in
theorem ggX8_put_X8_succeed : GoodIn wsX8_put wsX8_succeed := goodIn_r _ [32, 28, 39, 40, 41, 42, 43, 44, 45, 46, 47] (by decide +kernel) (by decide +kernel)
set_option maxRecDepth 20000 in
theorem gX8_put_X8_succeed : GoodIn wsX8_put (wsV RX8 159 RX8 yX8_succeed wsX8_succeed) := goodIn_app (goodIn_of _ (by decide +kernel)) ggX8_put_X8_succeed
theorem dX8_put_0 : decode cX8_put 0 = .ok (.aload_n 0, 1) := by decide +kernel
theorem dX8_put_1 : decode cX8_put 1 = .ok (.iload_n 1, 1) := by decide +kernel
theorem dX8_put_2 : decode cX8_put 2 = .ok (.invokevirtual 228, 3) := by decide +kernel
theorem dX8_put_5 : decode cX8_put 5 = .ok (.astore 4, 2) := by decide +kernel
theorem dX8_put_7 : decode cX8_put 7 = .ok (.aload_n 0, 1) := by decide +kernel
theorem dX8_put_8 : decode cX8_put 8 = .ok (.iload_n 3, 1) := by decide +kernel
theorem dX8_put_9 : decode cX8_put 9 = .ok (.invokevirtual 240, 3) := by decide +kernel
theorem dX8_put_12 : decode cX8_put 12 = .ok (.astore 5, 2) := by decide +kernel
theorem dX8_put_14 : decode cX8_put 14 = .ok (.aload 4, 2) := by decide +kernel
theorem dX8_put_16 : decode cX8_put 16 = .ok (.ifnull 13, 3) := by decide +kernel
theorem dX8_put_19 : decode cX8_put 19 = .ok (.aload 5, 2) := by decide +kernel
theorem dX8_put_21 : decode cX8_put 21 = .ok (.ifnonnull 12, 3) := by decide +kernel
theorem dX8_put_24 : decode cX8_put 24 = .ok (.iload_n 3, 1) := by decide +kernel
theorem dX8_put_25 : decode cX8_put 25 = .ok (.iconst (-1), 1) := by decide +kernel
theorem dX8_put_26 : decode cX8_put 26 = .ok (.if_icmp .eq 7, 3) := by decide +kernel
theorem dX8_put_29 : decode cX8_put 29 = .ok (.sipush (-1001), 3) := by decide +kernel
theorem dX8_put_32 : decode cX8_put 32 = .ok (.ireturn, 1) := by decide +kernel
theorem dX8_put_33 : decode cX8_put 33 = .ok (.aload 4, 2) := by decide +kernel
theorem dX8_put_35 : decode cX8_put 35 = .ok (.iload_n 2, 1) := by decide +kernel
theorem dX8_put_36 : decode cX8_put 36 = .ok (.invokevirtual 244, 3) := by decide +kernel
theorem dX8_put_39 : decode cX8_put 39 = .ok (.istore 6, 2) := by decide +kernel
theorem dX8_put_41 : decode cX8_put 41 = .ok (.iload 6, 2) := by decide +kernel
theorem dX8_put_43 : decode cX8_put 43 = .ok (.ifCond .eq 10, 3) := by decide +kernel
theorem dX8_put_46 : decode cX8_put 46 = .ok (.aload_n 0, 1) := by decide +kernel
theorem dX8_put_47 : decode cX8_put 47 = .ok (.iload 6, 2) := by decide +kernel
theorem dX8_put_49 : decode cX8_put 49 = .ok (.invokevirtual 139, 3) := by decide +kernel
theorem dX8_put_52 : decode cX8_put 52 = .ok (.ireturn, 1) := by decide +kernel
theorem dX8_put_53 : decode cX8_put 53 = .ok (.aload 5, 2) := by decide +kernel
theorem dX8_put_55 : decode cX8_put 55 = .ok (.ifnull 25, 3) := by decide +kernel
theorem dX8_put_58 : decode cX8_put 58 = .ok (.aload 5, 2) := by decide +kernel
theorem dX8_put_60 : decode cX8_put 60 = .ok (.getfield 245, 3) := by decide +kernel
theorem dX8_put_63 : decode cX8_put 63 = .ok (.ifCond .ne 17, 3) := by decide +kernel
theorem dX8_put_66 : decode cX8_put 66 = .ok (.aload 4, 2) := by decide +kernel
theorem dX8_put_68 : decode cX8_put 68 = .ok (.getfield 235, 3) := by decide +kernel
theorem dX8_put_71 : decode cX8_put 71 = .ok (.ifCond .eq 9, 3) := by decide +kernel
theorem dX8_put_74 : decode cX8_put 74 = .ok (.aload_n 0, 1) := by decide +kernel
theorem dX8_put_75 : decode cX8_put 75 = .ok (.iconst 3, 1) := by decide +kernel
theorem dX8_put_76 : decode cX8_put 76 = .ok (.invokevirtual 139, 3) := by decide +kernel
theorem dX8_put_79 : decode cX8_put 79 = .ok (.ireturn, 1) := by decide +kernel
theorem dX8_put_80 : decode cX8_put 80 = .ok (.aload 4, 2) := by decide +kernel
theorem dX8_put_82 : decode cX8_put 82 = .ok (.getfield 248, 3) := by decide +kernel
theorem dX8_put_85 : decode cX8_put 85 = .ok (.iload_n 2, 1) := by decide +kernel
theorem dX8_put_86 : decode cX8_put 86 = .ok (.aload 5, 2) := by decide +kernel
theorem dX8_put_88 : decode cX8_put 88 = .ok (.aastore, 1) := by decide +kernel
theorem dX8_put_89 : decode cX8_put 89 = .ok (.aload_n 0, 1) := by decide +kernel
theorem dX8_put_90 : decode cX8_put 90 = .ok (.iconst 1, 1) := by decide +kernel
theorem dX8_put_91 : decode cX8_put 91 = .ok (.invokevirtual 159, 3) := by decide +kernel
theorem dX8_put_94 : decode cX8_put 94 = .ok (.ireturn, 1) := by decide +kernel
set_option maxRecDepth 20000 in
theorem ggX8_at_X8_rackOf : GoodIn wsX8_at wsX8_rackOf := goodIn_r _ [7, 8, 32, 33, 34, 35, 36, 37, 38, 39, 40] (by decide +kernel) (by decide +kernel)
set_option maxRecDepth 20000 in
theorem gX8_at_X8_rackOf : GoodIn wsX8_at (wsV RX8 228 RX8 yX8_rackOf wsX8_rackOf) := goodIn_app (goodIn_of _ (by decide +kernel)) ggX8_at_X8_rackOf
set_option maxRecDepth 20000 in
theorem ggX8_at_X5_lackAt : GoodIn wsX8_at wsX5_lackAt := goodIn_r _ [14, 15, 41, 42, 43, 26, 27, 28] (by decide +kernel) (by decide +kernel)
set_option maxRecDepth 20000 in
theorem gX8_at_X5_lackAt_u244X6 : GoodIn wsX8_at (va_wsU RX8 244 RX6 "RopeDrums$Places" ⟨"RopeDrums$Rack", "lackAt", "(I)I"⟩ yX5_lackAt wsX5_lackAt) := goodIn_app (goodIn_of _ (by decide +kernel)) ggX8_at_X5_lackAt
set_option maxRecDepth 20000 in
theorem ggX8_at_X8_fail : GoodIn wsX8_at wsX8_fail := goodIn_r _ [19, 20, 21, 32, 33, 34, 35, 36, 37, 38, 39, 40] (by decide +kernel) (by decide +kernel)
set_option maxRecDepth 20000 in
theorem gX8_at_X8_fail : GoodIn wsX8_at (wsV RX8 139 RX8 yX8_fail wsX8_fail) := goodIn_app (goodIn_of _ (by decide +kernel)) ggX8_at_X8_fail
set_option maxRecDepth 20000 in
theorem ggX8_at_X8_succeed : GoodIn wsX8_at wsX8_succeed := goodIn_r _ [25, 21, 32, 33, 34, 35, 36, 37, 38, 39, 40] (by decide +kernel) (by decide +kernel)
set_option maxRecDepth 20000 in
theorem gX8_at_X8_succeed : GoodIn wsX8_at (wsV RX8 159 RX8 yX8_succeed wsX8_succeed) := goodIn_app (goodIn_of _ (by decide +kernel)) ggX8_at_X8_succeed
theorem dX8_at_0 : decode cX8_at 0 = .ok (.aload_n 0, 1) := by decide +kernel
theorem dX8_at_1 : decode cX8_at 1 = .ok (.iload_n 1, 1) := by decide +kernel
theorem dX8_at_2 : decode cX8_at 2 = .ok (.invokevirtual 228, 3) := by decide +kernel
theorem dX8_at_5 : decode cX8_at 5 = .ok (.astore_n 3, 1) := by decide +kernel
theorem dX8_at_6 : decode cX8_at 6 = .ok (.aload_n 3, 1) := by decide +kernel
theorem dX8_at_7 : decode cX8_at 7 = .ok (.ifnonnull 7, 3) := by decide +kernel
theorem dX8_at_10 : decode cX8_at 10 = .ok (.sipush (-1001), 3) := by decide +kernel
theorem dX8_at_13 : decode cX8_at 13 = .ok (.ireturn, 1) := by decide +kernel
theorem dX8_at_14 : decode cX8_at 14 = .ok (.aload_n 3, 1) := by decide +kernel
theorem dX8_at_15 : decode cX8_at 15 = .ok (.iload_n 2, 1) := by decide +kernel
theorem dX8_at_16 : decode cX8_at 16 = .ok (.invokevirtual 244, 3) := by decide +kernel
theorem dX8_at_19 : decode cX8_at 19 = .ok (.istore 4, 2) := by decide +kernel
theorem dX8_at_21 : decode cX8_at 21 = .ok (.iload 4, 2) := by decide +kernel
theorem dX8_at_23 : decode cX8_at 23 = .ok (.ifCond .eq 10, 3) := by decide +kernel
theorem dX8_at_26 : decode cX8_at 26 = .ok (.aload_n 0, 1) := by decide +kernel
theorem dX8_at_27 : decode cX8_at 27 = .ok (.iload 4, 2) := by decide +kernel
theorem dX8_at_29 : decode cX8_at 29 = .ok (.invokevirtual 139, 3) := by decide +kernel
theorem dX8_at_32 : decode cX8_at 32 = .ok (.ireturn, 1) := by decide +kernel
theorem dX8_at_33 : decode cX8_at 33 = .ok (.aload_n 3, 1) := by decide +kernel
theorem dX8_at_34 : decode cX8_at 34 = .ok (.getfield 248, 3) := by decide +kernel
theorem dX8_at_37 : decode cX8_at 37 = .ok (.iload_n 2, 1) := by decide +kernel
theorem dX8_at_38 : decode cX8_at 38 = .ok (.aaload, 1) := by decide +kernel
theorem dX8_at_39 : decode cX8_at 39 = .ok (.astore 5, 2) := by decide +kernel
theorem dX8_at_41 : decode cX8_at 41 = .ok (.aload_n 0, 1) := by decide +kernel
theorem dX8_at_42 : decode cX8_at 42 = .ok (.aload 5, 2) := by decide +kernel
theorem dX8_at_44 : decode cX8_at 44 = .ok (.ifnonnull 7, 3) := by decide +kernel
theorem dX8_at_47 : decode cX8_at 47 = .ok (.iconst (-1), 1) := by decide +kernel
theorem dX8_at_48 : decode cX8_at 48 = .ok (.goto 8, 3) := by decide +kernel
theorem dX8_at_51 : decode cX8_at 51 = .ok (.aload 5, 2) := by decide +kernel
theorem dX8_at_53 : decode cX8_at 53 = .ok (.getfield 250, 3) := by decide +kernel
theorem dX8_at_56 : decode cX8_at 56 = .ok (.invokevirtual 159, 3) := by decide +kernel
theorem dX8_at_59 : decode cX8_at 59 = .ok (.ireturn, 1) := by decide +kernel
set_option maxRecDepth 20000 in
theorem ggX8_weight_X8_rackOf : GoodIn wsX8_weight wsX8_rackOf := goodIn_r _ [8, 9, 33, 34, 35, 36, 37, 38, 39, 40, 41] (by decide +kernel) (by decide +kernel)
set_option maxRecDepth 20000 in
theorem gX8_weight_X8_rackOf : GoodIn wsX8_weight (wsV RX8 228 RX8 yX8_rackOf wsX8_rackOf) := goodIn_app (goodIn_of _ (by decide +kernel)) ggX8_weight_X8_rackOf
set_option maxRecDepth 20000 in
theorem ggX8_weight_X5_lackAt : GoodIn wsX8_weight wsX5_lackAt := goodIn_r _ [15, 16, 42, 43, 44, 27, 28, 29] (by decide +kernel) (by decide +kernel)
set_option maxRecDepth 20000 in
theorem gX8_weight_X5_lackAt_u244X6 : GoodIn wsX8_weight (va_wsU RX8 244 RX6 "RopeDrums$Places" ⟨"RopeDrums$Rack", "lackAt", "(I)I"⟩ yX5_lackAt wsX5_lackAt) := goodIn_app (goodIn_of _ (by decide +kernel)) ggX8_weight_X5_lackAt
set_option maxRecDepth 20000 in
theorem ggX8_weight_X8_fail : GoodIn wsX8_weight wsX8_fail := goodIn_r _ [20, 21, 22, 33, 34, 35, 36, 37, 38, 39, 40, 41] (by decide +kernel) (by decide +kernel)
set_option maxRecDepth 20000 in
theorem gX8_weight_X8_fail : GoodIn wsX8_weight (wsV RX8 139 RX8 yX8_fail wsX8_fail) := goodIn_app (goodIn_of _ (by decide +kernel)) ggX8_weight_X8_fail
set_option maxRecDepth 20000 in
theorem ggX8_weight_X8_succeed : GoodIn wsX8_weight wsX8_succeed := goodIn_r _ [26, 22, 33, 34, 35, 36, 37, 38, 39, 40, 41] (by decide +kernel) (by decide +kernel)
set_option maxRecDepth 20000 in
theorem gX8_weight_X8_succeed : GoodIn wsX8_weight (wsV RX8 159 RX8 yX8_succeed wsX8_succeed) := goodIn_app (goodIn_of _ (by decide +kernel)) ggX8_weight_X8_succeed
theorem dX8_weight_0 : decode cX8_weight 0 = .ok (.aload_n 0, 1) := by decide +kernel
theorem dX8_weight_1 : decode cX8_weight 1 = .ok (.iload_n 1, 1) := by decide +kernel
theorem dX8_weight_2 : decode cX8_weight 2 = .ok (.invokevirtual 228, 3) := by decide +kernel
theorem dX8_weight_5 : decode cX8_weight 5 = .ok (.astore 4, 2) := by decide +kernel
theorem dX8_weight_7 : decode cX8_weight 7 = .ok (.aload 4, 2) := by decide +kernel
theorem dX8_weight_9 : decode cX8_weight 9 = .ok (.ifnonnull 7, 3) := by decide +kernel
theorem dX8_weight_12 : decode cX8_weight 12 = .ok (.sipush (-1001), 3) := by decide +kernel
theorem dX8_weight_15 : decode cX8_weight 15 = .ok (.ireturn, 1) := by decide +kernel
theorem dX8_weight_16 : decode cX8_weight 16 = .ok (.aload 4, 2) := by decide +kernel
theorem dX8_weight_18 : decode cX8_weight 18 = .ok (.iload_n 2, 1) := by decide +kernel
theorem dX8_weight_19 : decode cX8_weight 19 = .ok (.invokevirtual 244, 3) := by decide +kernel
theorem dX8_weight_22 : decode cX8_weight 22 = .ok (.istore 5, 2) := by decide +kernel
theorem dX8_weight_24 : decode cX8_weight 24 = .ok (.iload 5, 2) := by decide +kernel
theorem dX8_weight_26 : decode cX8_weight 26 = .ok (.ifCond .eq 10, 3) := by decide +kernel
theorem dX8_weight_29 : decode cX8_weight 29 = .ok (.aload_n 0, 1) := by decide +kernel
theorem dX8_weight_30 : decode cX8_weight 30 = .ok (.iload 5, 2) := by decide +kernel
theorem dX8_weight_32 : decode cX8_weight 32 = .ok (.invokevirtual 139, 3) := by decide +kernel
theorem dX8_weight_35 : decode cX8_weight 35 = .ok (.ireturn, 1) := by decide +kernel
theorem dX8_weight_36 : decode cX8_weight 36 = .ok (.aload 4, 2) := by decide +kernel
theorem dX8_weight_38 : decode cX8_weight 38 = .ok (.getfield 248, 3) := by decide +kernel
theorem dX8_weight_41 : decode cX8_weight 41 = .ok (.iload_n 2, 1) := by decide +kernel
theorem dX8_weight_42 : decode cX8_weight 42 = .ok (.aaload, 1) := by decide +kernel
theorem dX8_weight_43 : decode cX8_weight 43 = .ok (.astore 6, 2) := by decide +kernel
theorem dX8_weight_45 : decode cX8_weight 45 = .ok (.aload 6, 2) := by decide +kernel
theorem dX8_weight_47 : decode cX8_weight 47 = .ok (.ifnonnull 9, 3) := by decide +kernel
theorem dX8_weight_50 : decode cX8_weight 50 = .ok (.aload_n 0, 1) := by decide +kernel
theorem dX8_weight_51 : decode cX8_weight 51 = .ok (.iconst 1, 1) := by decide +kernel
theorem dX8_weight_52 : decode cX8_weight 52 = .ok (.invokevirtual 139, 3) := by decide +kernel
theorem dX8_weight_55 : decode cX8_weight 55 = .ok (.ireturn, 1) := by decide +kernel
theorem dX8_weight_56 : decode cX8_weight 56 = .ok (.iload_n 3, 1) := by decide +kernel
theorem dX8_weight_57 : decode cX8_weight 57 = .ok (.ifCond .eq 17, 3) := by decide +kernel
theorem dX8_weight_60 : decode cX8_weight 60 = .ok (.aload 6, 2) := by decide +kernel
theorem dX8_weight_62 : decode cX8_weight 62 = .ok (.getfield 245, 3) := by decide +kernel
theorem dX8_weight_65 : decode cX8_weight 65 = .ok (.ifCond .ne 9, 3) := by decide +kernel
theorem dX8_weight_68 : decode cX8_weight 68 = .ok (.aload_n 0, 1) := by decide +kernel
theorem dX8_weight_69 : decode cX8_weight 69 = .ok (.iconst 3, 1) := by decide +kernel
theorem dX8_weight_70 : decode cX8_weight 70 = .ok (.invokevirtual 139, 3) := by decide +kernel
theorem dX8_weight_73 : decode cX8_weight 73 = .ok (.ireturn, 1) := by decide +kernel
theorem dX8_weight_74 : decode cX8_weight 74 = .ok (.aload_n 0, 1) := by decide +kernel
theorem dX8_weight_75 : decode cX8_weight 75 = .ok (.iload_n 3, 1) := by decide +kernel
theorem dX8_weight_76 : decode cX8_weight 76 = .ok (.ifCond .eq 15, 3) := by decide +kernel
theorem dX8_weight_79 : decode cX8_weight 79 = .ok (.iconst 2, 1) := by decide +kernel
theorem dX8_weight_80 : decode cX8_weight 80 = .ok (.aload 6, 2) := by decide +kernel
theorem dX8_weight_82 : decode cX8_weight 82 = .ok (.getfield 252, 3) := by decide +kernel
theorem dX8_weight_85 : decode cX8_weight 85 = .ok (.imul, 1) := by decide +kernel
theorem dX8_weight_86 : decode cX8_weight 86 = .ok (.iconst 1, 1) := by decide +kernel
theorem dX8_weight_87 : decode cX8_weight 87 = .ok (.iadd, 1) := by decide +kernel
theorem dX8_weight_88 : decode cX8_weight 88 = .ok (.goto 8, 3) := by decide +kernel
theorem dX8_weight_91 : decode cX8_weight 91 = .ok (.aload 6, 2) := by decide +kernel
theorem dX8_weight_93 : decode cX8_weight 93 = .ok (.getfield 252, 3) := by decide +kernel
theorem dX8_weight_96 : decode cX8_weight 96 = .ok (.invokevirtual 159, 3) := by decide +kernel
theorem dX8_weight_99 : decode cX8_weight 99 = .ok (.ireturn, 1) := by decide +kernel
set_option maxRecDepth 20000 in
theorem ggX8_brake_X8_brakeOf : GoodIn wsX8_brake wsX8_brakeOf := goodIn_r _ [8, 9, 53, 54, 55, 56, 57, 58, 59, 60, 61] (by decide +kernel) (by decide +kernel)
set_option maxRecDepth 20000 in
theorem gX8_brake_X8_brakeOf : GoodIn wsX8_brake (wsV RX8 255 RX8 yX8_brakeOf wsX8_brakeOf) := goodIn_app (goodIn_of _ (by decide +kernel)) ggX8_brake_X8_brakeOf
set_option maxRecDepth 20000 in
theorem ggX8_brake_X2_isNumber : GoodIn wsX8_brake wsX2_isNumber := goodIn_r _ [14, 15, 16, 17, 13, 18, 19, 20, 21, 22, 23, 24, 25] (by decide +kernel) (by decide +kernel)
set_option maxRecDepth 20000 in
theorem gX8_brake_X2_isNumber : GoodIn wsX8_brake (wsV RX8 79 RX2 yX2_isNumber wsX2_isNumber) := goodIn_app (goodIn_of _ (by decide +kernel)) ggX8_brake_X2_isNumber
set_option maxRecDepth 20000 in
theorem ggX8_brake_X2_numberOf : GoodIn wsX8_brake wsX2_numberOf := goodIn_r _ [29, 30, 19, 15, 16, 17, 13, 18, 20, 21, 22, 23, 24, 25, 31, 32, 33, 34, 35, 36, 37, 38, 39, 40, 41, 42, 43, 44, 7, 45, 46, 47, 48, 49, 50] (by decide +kernel) (by decide +kernel)
set_option maxRecDepth 20000 in
theorem gX8_brake_X2_numberOf : GoodIn wsX8_brake (wsV RX8 85 RX2 yX2_numberOf wsX2_numberOf) := goodIn_app (goodIn_of _ (by decide +kernel)) ggX8_brake_X2_numberOf
theorem dX8_brake_0 : decode cX8_brake 0 = .ok (.aload_n 0, 1) := by decide +kernel
theorem dX8_brake_1 : decode cX8_brake 1 = .ok (.iload_n 1, 1) := by decide +kernel
theorem dX8_brake_2 : decode cX8_brake 2 = .ok (.invokevirtual 255, 3) := by decide +kernel
theorem dX8_brake_5 : decode cX8_brake 5 = .ok (.astore 5, 2) := by decide +kernel
theorem dX8_brake_7 : decode cX8_brake 7 = .ok (.aload 5, 2) := by decide +kernel
theorem dX8_brake_9 : decode cX8_brake 9 = .ok (.ifnonnull 7, 3) := by decide +kernel
theorem dX8_brake_12 : decode cX8_brake 12 = .ok (.sipush (-1001), 3) := by decide +kernel
theorem dX8_brake_15 : decode cX8_brake 15 = .ok (.ireturn, 1) := by decide +kernel
theorem dX8_brake_16 : decode cX8_brake 16 = .ok (.iload_n 2, 1) := by decide +kernel
theorem dX8_brake_17 : decode cX8_brake 17 = .ok (.ifCond .lt 8, 3) := by decide +kernel
theorem dX8_brake_20 : decode cX8_brake 20 = .ok (.iload_n 2, 1) := by decide +kernel
theorem dX8_brake_21 : decode cX8_brake 21 = .ok (.iconst 2, 1) := by decide +kernel
theorem dX8_brake_22 : decode cX8_brake 22 = .ok (.if_icmp .le 7, 3) := by decide +kernel
theorem dX8_brake_25 : decode cX8_brake 25 = .ok (.sipush (-1002), 3) := by decide +kernel
theorem dX8_brake_28 : decode cX8_brake 28 = .ok (.ireturn, 1) := by decide +kernel
theorem dX8_brake_29 : decode cX8_brake 29 = .ok (.iload_n 2, 1) := by decide +kernel
theorem dX8_brake_30 : decode cX8_brake 30 = .ok (.iconst 2, 1) := by decide +kernel
theorem dX8_brake_31 : decode cX8_brake 31 = .ok (.if_icmp .eq 29, 3) := by decide +kernel
theorem dX8_brake_34 : decode cX8_brake 34 = .ok (.getstatic 166, 3) := by decide +kernel
theorem dX8_brake_37 : decode cX8_brake 37 = .ok (.lload_n 3, 1) := by decide +kernel
theorem dX8_brake_38 : decode cX8_brake 38 = .ok (.invokevirtual 79, 3) := by decide +kernel
theorem dX8_brake_41 : decode cX8_brake 41 = .ok (.ifCond .ne 7, 3) := by decide +kernel
theorem dX8_brake_44 : decode cX8_brake 44 = .ok (.sipush (-1002), 3) := by decide +kernel
theorem dX8_brake_47 : decode cX8_brake 47 = .ok (.ireturn, 1) := by decide +kernel
theorem dX8_brake_48 : decode cX8_brake 48 = .ok (.aload 5, 2) := by decide +kernel
theorem dX8_brake_50 : decode cX8_brake 50 = .ok (.getstatic 166, 3) := by decide +kernel
theorem dX8_brake_53 : decode cX8_brake 53 = .ok (.lload_n 3, 1) := by decide +kernel
theorem dX8_brake_54 : decode cX8_brake 54 = .ok (.invokevirtual 85, 3) := by decide +kernel
theorem dX8_brake_57 : decode cX8_brake 57 = .ok (.putfield 259, 3) := by decide +kernel
theorem dX8_brake_60 : decode cX8_brake 60 = .ok (.aload 5, 2) := by decide +kernel
theorem dX8_brake_62 : decode cX8_brake 62 = .ok (.iload_n 2, 1) := by decide +kernel
theorem dX8_brake_63 : decode cX8_brake 63 = .ok (.putfield 262, 3) := by decide +kernel
theorem dX8_brake_66 : decode cX8_brake 66 = .ok (.iconst 1, 1) := by decide +kernel
theorem dX8_brake_67 : decode cX8_brake 67 = .ok (.ireturn, 1) := by decide +kernel
set_option maxRecDepth 20000 in
theorem ggX8_slow_X8_brakeOf : GoodIn wsX8_slow wsX8_brakeOf := goodIn_r _ [7, 8, 89, 90, 91, 92, 93, 94, 95, 96, 97] (by decide +kernel) (by decide +kernel)
set_option maxRecDepth 20000 in
theorem gX8_slow_X8_brakeOf : GoodIn wsX8_slow (wsV RX8 255 RX8 yX8_brakeOf wsX8_brakeOf) := goodIn_app (goodIn_of _ (by decide +kernel)) ggX8_slow_X8_brakeOf
set_option maxRecDepth 20000 in
theorem ggX8_slow_X8_meterOf : GoodIn wsX8_slow wsX8_meterOf := goodIn_r _ [12, 13, 89, 90, 91, 92, 93, 94, 95, 96, 97] (by decide +kernel) (by decide +kernel)
set_option maxRecDepth 20000 in
theorem gX8_slow_X8_meterOf : GoodIn wsX8_slow (wsV RX8 63 RX8 yX8_meterOf wsX8_meterOf) := goodIn_app (goodIn_of _ (by decide +kernel)) ggX8_slow_X8_meterOf
set_option maxRecDepth 20000 in
theorem ggX8_slow_X8_fail : GoodIn wsX8_slow wsX8_fail := goodIn_r _ [17, 18, 19, 89, 90, 91, 92, 93, 94, 95, 96, 97] (by decide +kernel) (by decide +kernel)
set_option maxRecDepth 20000 in
theorem gX8_slow_X8_fail : GoodIn wsX8_slow (wsV RX8 139 RX8 yX8_fail wsX8_fail) := goodIn_app (goodIn_of _ (by decide +kernel)) ggX8_slow_X8_fail
set_option maxRecDepth 20000 in
theorem ggX8_slow_X4_asDouble : GoodIn wsX8_slow wsX4_asDouble := goodIn_r _ [24, 25, 26, 27, 28, 29, 23, 30, 31, 98, 99, 100] (by decide +kernel) (by decide +kernel)
set_option maxRecDepth 20000 in
theorem gX8_slow_X4_asDouble : GoodIn wsX8_slow (wsV RX8 151 RX4 yX4_asDouble wsX4_asDouble) := goodIn_app (goodIn_of _ (by decide +kernel)) ggX8_slow_X4_asDouble
set_option maxRecDepth 20000 in
theorem ggX8_slow_X8_isVoid : GoodIn wsX8_slow wsX8_isVoid := goodIn_r _ [34, 35, 36, 6, 37, 38] (by decide +kernel) (by decide +kernel)
set_option maxRecDepth 20000 in
theorem gX8_slow_X8_isVoid : GoodIn wsX8_slow (va_wsS RX8 135 yX8_isVoid wsX8_isVoid) := goodIn_app (goodIn_of _ (by decide +kernel)) ggX8_slow_X8_isVoid
set_option maxRecDepth 20000 in
theorem ggX8_slow_X8_leftOf : GoodIn wsX8_slow wsX8_leftOf := goodIn_r _ [41, 42, 43, 44, 45, 46, 35, 36, 6, 37, 38, 47, 48, 49, 50, 51, 52, 53, 54, 55, 56, 57, 58, 59, 60, 61, 62, 63, 64, 65, 66, 67, 68, 69, 70, 71, 72, 73, 74, 75, 76, 77, 78] (by decide +kernel) (by decide +kernel)
set_option maxRecDepth 20000 in
theorem gX8_slow_X8_leftOf : GoodIn wsX8_slow (va_wsS RX8 190 yX8_leftOf wsX8_leftOf) := goodIn_app (goodIn_of _ (by decide +kernel)) ggX8_slow_X8_leftOf
set_option maxRecDepth 20000 in
theorem ggX8_slow_X4_holdReal : GoodIn wsX8_slow wsX4_holdReal := goodIn_r _ [82, 31, 26, 98, 99, 100] (by decide +kernel) (by decide +kernel)
set_option maxRecDepth 20000 in
theorem gX8_slow_X4_holdReal : GoodIn wsX8_slow (wsV RX8 89 RX4 yX4_holdReal wsX4_holdReal) := goodIn_app (goodIn_of _ (by decide +kernel)) ggX8_slow_X4_holdReal
set_option maxRecDepth 20000 in
theorem ggX8_slow_X8_succeed : GoodIn wsX8_slow wsX8_succeed := goodIn_r _ [86, 19, 89, 90, 91, 92, 93, 94, 95, 96, 97] (by decide +kernel) (by decide +kernel)
set_option maxRecDepth 20000 in
theorem gX8_slow_X8_succeed : GoodIn wsX8_slow (wsV RX8 159 RX8 yX8_succeed wsX8_succeed) := goodIn_app (goodIn_of _ (by decide +kernel)) ggX8_slow_X8_succeed
theorem dX8_slow_0 : decode cX8_slow 0 = .ok (.aload_n 0, 1) := by decide +kernel
theorem dX8_slow_1 : decode cX8_slow 1 = .ok (.iload_n 1, 1) := by decide +kernel
theorem dX8_slow_2 : decode cX8_slow 2 = .ok (.invokevirtual 255, 3) := by decide +kernel
theorem dX8_slow_5 : decode cX8_slow 5 = .ok (.astore_n 3, 1) := by decide +kernel
theorem dX8_slow_6 : decode cX8_slow 6 = .ok (.aload_n 0, 1) := by decide +kernel
theorem dX8_slow_7 : decode cX8_slow 7 = .ok (.iload_n 2, 1) := by decide +kernel
theorem dX8_slow_8 : decode cX8_slow 8 = .ok (.invokevirtual 63, 3) := by decide +kernel
theorem dX8_slow_11 : decode cX8_slow 11 = .ok (.astore 4, 2) := by decide +kernel
theorem dX8_slow_13 : decode cX8_slow 13 = .ok (.aload_n 3, 1) := by decide +kernel
theorem dX8_slow_14 : decode cX8_slow 14 = .ok (.ifnull 8, 3) := by decide +kernel
theorem dX8_slow_17 : decode cX8_slow 17 = .ok (.aload 4, 2) := by decide +kernel
theorem dX8_slow_19 : decode cX8_slow 19 = .ok (.ifnonnull 7, 3) := by decide +kernel
theorem dX8_slow_22 : decode cX8_slow 22 = .ok (.sipush (-1001), 3) := by decide +kernel
theorem dX8_slow_25 : decode cX8_slow 25 = .ok (.ireturn, 1) := by decide +kernel
theorem dX8_slow_26 : decode cX8_slow 26 = .ok (.aload_n 3, 1) := by decide +kernel

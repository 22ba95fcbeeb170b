theorem dX8_slow_27 : decode cX8_slow 27 = .ok (.getfield 262, 3) := by decide +kernel
theorem dX8_slow_30 : decode cX8_slow 30 = .ok (.iconst 2, 1) := by decide +kernel
theorem dX8_slow_31 : decode cX8_slow 31 = .ok (.if_icmp .ne 9, 3) := by decide +kernel
theorem dX8_slow_34 : decode cX8_slow 34 = .ok (.aload_n 0, 1) := by decide +kernel
theorem dX8_slow_35 : decode cX8_slow 35 = .ok (.iconst 1, 1) := by decide +kernel
theorem dX8_slow_36 : decode cX8_slow 36 = .ok (.invokevirtual 139, 3) := by decide +kernel
theorem dX8_slow_39 : decode cX8_slow 39 = .ok (.ireturn, 1) := by decide +kernel
theorem dX8_slow_40 : decode cX8_slow 40 = .ok (.aload 4, 2) := by decide +kernel
theorem dX8_slow_42 : decode cX8_slow 42 = .ok (.invokevirtual 151, 3) := by decide +kernel
theorem dX8_slow_45 : decode cX8_slow 45 = .ok (.dstore 5, 2) := by decide +kernel
theorem dX8_slow_47 : decode cX8_slow 47 = .ok (.aload_n 3, 1) := by decide +kernel
theorem dX8_slow_48 : decode cX8_slow 48 = .ok (.getfield 262, 3) := by decide +kernel
theorem dX8_slow_51 : decode cX8_slow 51 = .ok (.iconst 1, 1) := by decide +kernel
theorem dX8_slow_52 : decode cX8_slow 52 = .ok (.if_icmp .ne 7, 3) := by decide +kernel
theorem dX8_slow_55 : decode cX8_slow 55 = .ok (.iconst 3, 1) := by decide +kernel
theorem dX8_slow_56 : decode cX8_slow 56 = .ok (.goto 4, 3) := by decide +kernel
theorem dX8_slow_59 : decode cX8_slow 59 = .ok (.iconst 4, 1) := by decide +kernel
theorem dX8_slow_60 : decode cX8_slow 60 = .ok (.dload 5, 2) := by decide +kernel
theorem dX8_slow_62 : decode cX8_slow 62 = .ok (.aload_n 3, 1) := by decide +kernel
theorem dX8_slow_63 : decode cX8_slow 63 = .ok (.getfield 259, 3) := by decide +kernel
theorem dX8_slow_66 : decode cX8_slow 66 = .ok (.invokestatic 135, 3) := by decide +kernel
theorem dX8_slow_69 : decode cX8_slow 69 = .ok (.ifCond .eq 9, 3) := by decide +kernel
theorem dX8_slow_72 : decode cX8_slow 72 = .ok (.aload_n 0, 1) := by decide +kernel
theorem dX8_slow_73 : decode cX8_slow 73 = .ok (.iconst 5, 1) := by decide +kernel
theorem dX8_slow_74 : decode cX8_slow 74 = .ok (.invokevirtual 139, 3) := by decide +kernel
theorem dX8_slow_77 : decode cX8_slow 77 = .ok (.ireturn, 1) := by decide +kernel
theorem dX8_slow_78 : decode cX8_slow 78 = .ok (.aload_n 3, 1) := by decide +kernel
theorem dX8_slow_79 : decode cX8_slow 79 = .ok (.getfield 262, 3) := by decide +kernel
theorem dX8_slow_82 : decode cX8_slow 82 = .ok (.iconst 1, 1) := by decide +kernel
theorem dX8_slow_83 : decode cX8_slow 83 = .ok (.if_icmp .ne 15, 3) := by decide +kernel
theorem dX8_slow_86 : decode cX8_slow 86 = .ok (.dload 5, 2) := by decide +kernel
theorem dX8_slow_88 : decode cX8_slow 88 = .ok (.aload_n 3, 1) := by decide +kernel
theorem dX8_slow_89 : decode cX8_slow 89 = .ok (.getfield 259, 3) := by decide +kernel
theorem dX8_slow_92 : decode cX8_slow 92 = .ok (.ddiv, 1) := by decide +kernel
theorem dX8_slow_93 : decode cX8_slow 93 = .ok (.d2f, 1) := by decide +kernel
theorem dX8_slow_94 : decode cX8_slow 94 = .ok (.f2d, 1) := by decide +kernel
theorem dX8_slow_95 : decode cX8_slow 95 = .ok (.goto 12, 3) := by decide +kernel
theorem dX8_slow_98 : decode cX8_slow 98 = .ok (.dload 5, 2) := by decide +kernel
theorem dX8_slow_100 : decode cX8_slow 100 = .ok (.aload_n 3, 1) := by decide +kernel
theorem dX8_slow_101 : decode cX8_slow 101 = .ok (.getfield 259, 3) := by decide +kernel
theorem dX8_slow_104 : decode cX8_slow 104 = .ok (.invokestatic 190, 3) := by decide +kernel
theorem dX8_slow_107 : decode cX8_slow 107 = .ok (.dstore 7, 2) := by decide +kernel
theorem dX8_slow_109 : decode cX8_slow 109 = .ok (.aload 4, 2) := by decide +kernel
theorem dX8_slow_111 : decode cX8_slow 111 = .ok (.iconst 3, 1) := by decide +kernel
theorem dX8_slow_112 : decode cX8_slow 112 = .ok (.dload 7, 2) := by decide +kernel
theorem dX8_slow_114 : decode cX8_slow 114 = .ok (.invokevirtual 89, 3) := by decide +kernel
theorem dX8_slow_117 : decode cX8_slow 117 = .ok (.aload_n 0, 1) := by decide +kernel
theorem dX8_slow_118 : decode cX8_slow 118 = .ok (.iconst 1, 1) := by decide +kernel
theorem dX8_slow_119 : decode cX8_slow 119 = .ok (.invokevirtual 159, 3) := by decide +kernel
theorem dX8_slow_122 : decode cX8_slow 122 = .ok (.ireturn, 1) := by decide +kernel
theorem dX8_failed_0 : decode cX8_failed 0 = .ok (.aload_n 0, 1) := by decide +kernel
theorem dX8_failed_1 : decode cX8_failed 1 = .ok (.getfield 53, 3) := by decide +kernel
theorem dX8_failed_4 : decode cX8_failed 4 = .ok (.ireturn, 1) := by decide +kernel
theorem dX8_count_0 : decode cX8_count 0 = .ok (.iload_n 1, 1) := by decide +kernel
theorem dX8_count_1 : decode cX8_count 1 = .ok (.ifCond .ne 8, 3) := by decide +kernel
theorem dX8_count_4 : decode cX8_count 4 = .ok (.aload_n 0, 1) := by decide +kernel
theorem dX8_count_5 : decode cX8_count 5 = .ok (.getfield 49, 3) := by decide +kernel
theorem dX8_count_8 : decode cX8_count 8 = .ok (.ireturn, 1) := by decide +kernel
theorem dX8_count_9 : decode cX8_count 9 = .ok (.iload_n 1, 1) := by decide +kernel
theorem dX8_count_10 : decode cX8_count 10 = .ok (.iconst 1, 1) := by decide +kernel
theorem dX8_count_11 : decode cX8_count 11 = .ok (.if_icmp .lt 8, 3) := by decide +kernel
theorem dX8_count_14 : decode cX8_count 14 = .ok (.iload_n 1, 1) := by decide +kernel
theorem dX8_count_15 : decode cX8_count 15 = .ok (.iconst 5, 1) := by decide +kernel
theorem dX8_count_16 : decode cX8_count 16 = .ok (.if_icmp .le 7, 3) := by decide +kernel
theorem dX8_count_19 : decode cX8_count 19 = .ok (.sipush (-1002), 3) := by decide +kernel
theorem dX8_count_22 : decode cX8_count 22 = .ok (.ireturn, 1) := by decide +kernel
theorem dX8_count_23 : decode cX8_count 23 = .ok (.aload_n 0, 1) := by decide +kernel
theorem dX8_count_24 : decode cX8_count 24 = .ok (.getfield 45, 3) := by decide +kernel
theorem dX8_count_27 : decode cX8_count 27 = .ok (.iload_n 1, 1) := by decide +kernel
theorem dX8_count_28 : decode cX8_count 28 = .ok (.iaload, 1) := by decide +kernel
theorem dX8_count_29 : decode cX8_count 29 = .ok (.ireturn, 1) := by decide +kernel
theorem dX8_fail_0 : decode cX8_fail 0 = .ok (.aload_n 0, 1) := by decide +kernel
theorem dX8_fail_1 : decode cX8_fail 1 = .ok (.getfield 45, 3) := by decide +kernel
theorem dX8_fail_4 : decode cX8_fail 4 = .ok (.iload_n 1, 1) := by decide +kernel
theorem dX8_fail_5 : decode cX8_fail 5 = .ok (.dup2, 1) := by decide +kernel
theorem dX8_fail_6 : decode cX8_fail 6 = .ok (.iaload, 1) := by decide +kernel
theorem dX8_fail_7 : decode cX8_fail 7 = .ok (.iconst 1, 1) := by decide +kernel
theorem dX8_fail_8 : decode cX8_fail 8 = .ok (.iadd, 1) := by decide +kernel
theorem dX8_fail_9 : decode cX8_fail 9 = .ok (.iastore, 1) := by decide +kernel
theorem dX8_fail_10 : decode cX8_fail 10 = .ok (.aload_n 0, 1) := by decide +kernel
theorem dX8_fail_11 : decode cX8_fail 11 = .ok (.iload_n 1, 1) := by decide +kernel
theorem dX8_fail_12 : decode cX8_fail 12 = .ok (.putfield 53, 3) := by decide +kernel
theorem dX8_fail_15 : decode cX8_fail 15 = .ok (.bipush (-10), 2) := by decide +kernel
theorem dX8_fail_17 : decode cX8_fail 17 = .ok (.iload_n 1, 1) := by decide +kernel
theorem dX8_fail_18 : decode cX8_fail 18 = .ok (.isub, 1) := by decide +kernel
theorem dX8_fail_19 : decode cX8_fail 19 = .ok (.ireturn, 1) := by decide +kernel
theorem dX8_succeed_0 : decode cX8_succeed 0 = .ok (.aload_n 0, 1) := by decide +kernel
theorem dX8_succeed_1 : decode cX8_succeed 1 = .ok (.iconst 0, 1) := by decide +kernel
theorem dX8_succeed_2 : decode cX8_succeed 2 = .ok (.putfield 53, 3) := by decide +kernel
theorem dX8_succeed_5 : decode cX8_succeed 5 = .ok (.iload_n 1, 1) := by decide +kernel
theorem dX8_succeed_6 : decode cX8_succeed 6 = .ok (.ireturn, 1) := by decide +kernel
theorem dX8_meterOf_0 : decode cX8_meterOf 0 = .ok (.iload_n 1, 1) := by decide +kernel
theorem dX8_meterOf_1 : decode cX8_meterOf 1 = .ok (.ifCond .lt 18, 3) := by decide +kernel
theorem dX8_meterOf_4 : decode cX8_meterOf 4 = .ok (.iload_n 1, 1) := by decide +kernel
theorem dX8_meterOf_5 : decode cX8_meterOf 5 = .ok (.bipush 10, 2) := by decide +kernel
theorem dX8_meterOf_7 : decode cX8_meterOf 7 = .ok (.if_icmp .ge 12, 3) := by decide +kernel
theorem dX8_meterOf_10 : decode cX8_meterOf 10 = .ok (.aload_n 0, 1) := by decide +kernel
theorem dX8_meterOf_11 : decode cX8_meterOf 11 = .ok (.getfield 11, 3) := by decide +kernel
theorem dX8_meterOf_14 : decode cX8_meterOf 14 = .ok (.iload_n 1, 1) := by decide +kernel
theorem dX8_meterOf_15 : decode cX8_meterOf 15 = .ok (.aaload, 1) := by decide +kernel
theorem dX8_meterOf_16 : decode cX8_meterOf 16 = .ok (.goto 4, 3) := by decide +kernel
theorem dX8_meterOf_19 : decode cX8_meterOf 19 = .ok (.aconst_null, 1) := by decide +kernel
theorem dX8_meterOf_20 : decode cX8_meterOf 20 = .ok (.areturn, 1) := by decide +kernel
theorem dX8_drumOf_0 : decode cX8_drumOf 0 = .ok (.iload_n 1, 1) := by decide +kernel
theorem dX8_drumOf_1 : decode cX8_drumOf 1 = .ok (.ifCond .lt 18, 3) := by decide +kernel
theorem dX8_drumOf_4 : decode cX8_drumOf 4 = .ok (.iload_n 1, 1) := by decide +kernel
theorem dX8_drumOf_5 : decode cX8_drumOf 5 = .ok (.bipush 6, 2) := by decide +kernel
theorem dX8_drumOf_7 : decode cX8_drumOf 7 = .ok (.if_icmp .ge 12, 3) := by decide +kernel
theorem dX8_drumOf_10 : decode cX8_drumOf 10 = .ok (.aload_n 0, 1) := by decide +kernel
theorem dX8_drumOf_11 : decode cX8_drumOf 11 = .ok (.getfield 17, 3) := by decide +kernel
theorem dX8_drumOf_14 : decode cX8_drumOf 14 = .ok (.iload_n 1, 1) := by decide +kernel
theorem dX8_drumOf_15 : decode cX8_drumOf 15 = .ok (.aaload, 1) := by decide +kernel
theorem dX8_drumOf_16 : decode cX8_drumOf 16 = .ok (.goto 4, 3) := by decide +kernel
theorem dX8_drumOf_19 : decode cX8_drumOf 19 = .ok (.aconst_null, 1) := by decide +kernel
theorem dX8_drumOf_20 : decode cX8_drumOf 20 = .ok (.areturn, 1) := by decide +kernel
theorem dX8_logOf_0 : decode cX8_logOf 0 = .ok (.iload_n 1, 1) := by decide +kernel
theorem dX8_logOf_1 : decode cX8_logOf 1 = .ok (.ifCond .lt 18, 3) := by decide +kernel
theorem dX8_logOf_4 : decode cX8_logOf 4 = .ok (.iload_n 1, 1) := by decide +kernel
theorem dX8_logOf_5 : decode cX8_logOf 5 = .ok (.bipush 8, 2) := by decide +kernel
theorem dX8_logOf_7 : decode cX8_logOf 7 = .ok (.if_icmp .ge 12, 3) := by decide +kernel
theorem dX8_logOf_10 : decode cX8_logOf 10 = .ok (.aload_n 0, 1) := by decide +kernel
theorem dX8_logOf_11 : decode cX8_logOf 11 = .ok (.getfield 23, 3) := by decide +kernel
theorem dX8_logOf_14 : decode cX8_logOf 14 = .ok (.iload_n 1, 1) := by decide +kernel
theorem dX8_logOf_15 : decode cX8_logOf 15 = .ok (.aaload, 1) := by decide +kernel
theorem dX8_logOf_16 : decode cX8_logOf 16 = .ok (.goto 4, 3) := by decide +kernel
theorem dX8_logOf_19 : decode cX8_logOf 19 = .ok (.aconst_null, 1) := by decide +kernel
theorem dX8_logOf_20 : decode cX8_logOf 20 = .ok (.areturn, 1) := by decide +kernel
theorem dX8_spoolOf_0 : decode cX8_spoolOf 0 = .ok (.iload_n 1, 1) := by decide +kernel
theorem dX8_spoolOf_1 : decode cX8_spoolOf 1 = .ok (.ifCond .lt 20, 3) := by decide +kernel
theorem dX8_spoolOf_4 : decode cX8_spoolOf 4 = .ok (.iload_n 1, 1) := by decide +kernel
theorem dX8_spoolOf_5 : decode cX8_spoolOf 5 = .ok (.aload_n 0, 1) := by decide +kernel
theorem dX8_spoolOf_6 : decode cX8_spoolOf 6 = .ok (.getfield 49, 3) := by decide +kernel
theorem dX8_spoolOf_9 : decode cX8_spoolOf 9 = .ok (.if_icmp .ge 12, 3) := by decide +kernel
theorem dX8_spoolOf_12 : decode cX8_spoolOf 12 = .ok (.aload_n 0, 1) := by decide +kernel
theorem dX8_spoolOf_13 : decode cX8_spoolOf 13 = .ok (.getfield 29, 3) := by decide +kernel
theorem dX8_spoolOf_16 : decode cX8_spoolOf 16 = .ok (.iload_n 1, 1) := by decide +kernel
theorem dX8_spoolOf_17 : decode cX8_spoolOf 17 = .ok (.aaload, 1) := by decide +kernel
theorem dX8_spoolOf_18 : decode cX8_spoolOf 18 = .ok (.goto 4, 3) := by decide +kernel
theorem dX8_spoolOf_21 : decode cX8_spoolOf 21 = .ok (.aconst_null, 1) := by decide +kernel
theorem dX8_spoolOf_22 : decode cX8_spoolOf 22 = .ok (.areturn, 1) := by decide +kernel
theorem dX8_rackOf_0 : decode cX8_rackOf 0 = .ok (.iload_n 1, 1) := by decide +kernel
theorem dX8_rackOf_1 : decode cX8_rackOf 1 = .ok (.ifCond .lt 17, 3) := by decide +kernel
theorem dX8_rackOf_4 : decode cX8_rackOf 4 = .ok (.iload_n 1, 1) := by decide +kernel
theorem dX8_rackOf_5 : decode cX8_rackOf 5 = .ok (.iconst 5, 1) := by decide +kernel
theorem dX8_rackOf_6 : decode cX8_rackOf 6 = .ok (.if_icmp .ge 12, 3) := by decide +kernel
theorem dX8_rackOf_9 : decode cX8_rackOf 9 = .ok (.aload_n 0, 1) := by decide +kernel
theorem dX8_rackOf_10 : decode cX8_rackOf 10 = .ok (.getfield 35, 3) := by decide +kernel
theorem dX8_rackOf_13 : decode cX8_rackOf 13 = .ok (.iload_n 1, 1) := by decide +kernel
theorem dX8_rackOf_14 : decode cX8_rackOf 14 = .ok (.aaload, 1) := by decide +kernel
theorem dX8_rackOf_15 : decode cX8_rackOf 15 = .ok (.goto 4, 3) := by decide +kernel
theorem dX8_rackOf_18 : decode cX8_rackOf 18 = .ok (.aconst_null, 1) := by decide +kernel
theorem dX8_rackOf_19 : decode cX8_rackOf 19 = .ok (.areturn, 1) := by decide +kernel
theorem dX8_brakeOf_0 : decode cX8_brakeOf 0 = .ok (.iload_n 1, 1) := by decide +kernel
theorem dX8_brakeOf_1 : decode cX8_brakeOf 1 = .ok (.ifCond .lt 17, 3) := by decide +kernel
theorem dX8_brakeOf_4 : decode cX8_brakeOf 4 = .ok (.iload_n 1, 1) := by decide +kernel
theorem dX8_brakeOf_5 : decode cX8_brakeOf 5 = .ok (.iconst 4, 1) := by decide +kernel
theorem dX8_brakeOf_6 : decode cX8_brakeOf 6 = .ok (.if_icmp .ge 12, 3) := by decide +kernel
theorem dX8_brakeOf_9 : decode cX8_brakeOf 9 = .ok (.aload_n 0, 1) := by decide +kernel
theorem dX8_brakeOf_10 : decode cX8_brakeOf 10 = .ok (.getfield 41, 3) := by decide +kernel
theorem dX8_brakeOf_13 : decode cX8_brakeOf 13 = .ok (.iload_n 1, 1) := by decide +kernel
theorem dX8_brakeOf_14 : decode cX8_brakeOf 14 = .ok (.aaload, 1) := by decide +kernel
theorem dX8_brakeOf_15 : decode cX8_brakeOf 15 = .ok (.goto 4, 3) := by decide +kernel
theorem dX8_brakeOf_18 : decode cX8_brakeOf 18 = .ok (.aconst_null, 1) := by decide +kernel
theorem dX8_brakeOf_19 : decode cX8_brakeOf 19 = .ok (.areturn, 1) := by decide +kernel
theorem dX8_isLane_0 : decode cX8_isLane 0 = .ok (.iload_n 0, 1) := by decide +kernel
theorem dX8_isLane_1 : decode cX8_isLane 1 = .ok (.ifCond .lt 12, 3) := by decide +kernel
theorem dX8_isLane_4 : decode cX8_isLane 4 = .ok (.iload_n 0, 1) := by decide +kernel
theorem dX8_isLane_5 : decode cX8_isLane 5 = .ok (.iconst 3, 1) := by decide +kernel
theorem dX8_isLane_6 : decode cX8_isLane 6 = .ok (.if_icmp .gt 7, 3) := by decide +kernel
theorem dX8_isLane_9 : decode cX8_isLane 9 = .ok (.iconst 1, 1) := by decide +kernel
theorem dX8_isLane_10 : decode cX8_isLane 10 = .ok (.goto 4, 3) := by decide +kernel
theorem dX8_isLane_13 : decode cX8_isLane 13 = .ok (.iconst 0, 1) := by decide +kernel
theorem dX8_isLane_14 : decode cX8_isLane 14 = .ok (.ireturn, 1) := by decide +kernel
theorem dX8_formOf_0 : decode cX8_formOf 0 = .ok (.iload_n 0, 1) := by decide +kernel
theorem dX8_formOf_1 : decode cX8_formOf 1 = .ok (.iconst 2, 1) := by decide +kernel
theorem dX8_formOf_2 : decode cX8_formOf 2 = .ok (.if_icmp .ne 9, 3) := by decide +kernel
theorem dX8_formOf_5 : decode cX8_formOf 5 = .ok (.getstatic 265, 3) := by decide +kernel
theorem dX8_formOf_8 : decode cX8_formOf 8 = .ok (.goto 6, 3) := by decide +kernel
theorem dX8_formOf_11 : decode cX8_formOf 11 = .ok (.getstatic 166, 3) := by decide +kernel
theorem dX8_formOf_14 : decode cX8_formOf 14 = .ok (.areturn, 1) := by decide +kernel
set_option maxRecDepth 20000 in
theorem ggX8_reckonWholes_X8_fail : GoodIn wsX8_reckonWholes wsX8_fail := goodIn_r _ [5, 6, 7, 19, 20, 21, 22, 23, 24, 25, 26, 27] (by decide +kernel) (by decide +kernel)
set_option maxRecDepth 20000 in
theorem gX8_reckonWholes_X8_fail : GoodIn wsX8_reckonWholes (wsV RX8 139 RX8 yX8_fail wsX8_fail) := goodIn_app (goodIn_of _ (by decide +kernel)) ggX8_reckonWholes_X8_fail
set_option maxRecDepth 20000 in
theorem ggX8_reckonWholes_X4_holdWhole : GoodIn wsX8_reckonWholes wsX4_holdWhole := goodIn_r _ [12, 13, 14, 28, 29, 30] (by decide +kernel) (by decide +kernel)
set_option maxRecDepth 20000 in
theorem gX8_reckonWholes_X4_holdWhole : GoodIn wsX8_reckonWholes (wsV RX8 71 RX4 yX4_holdWhole wsX4_holdWhole) := goodIn_app (goodIn_of _ (by decide +kernel)) ggX8_reckonWholes_X4_holdWhole
set_option maxRecDepth 20000 in
theorem ggX8_reckonWholes_X8_succeed : GoodIn wsX8_reckonWholes wsX8_succeed := goodIn_r _ [18, 7, 19, 20, 21, 22, 23, 24, 25, 26, 27] (by decide +kernel) (by decide +kernel)
set_option maxRecDepth 20000 in
theorem gX8_reckonWholes_X8_succeed : GoodIn wsX8_reckonWholes (wsV RX8 159 RX8 yX8_succeed wsX8_succeed) := goodIn_app (goodIn_of _ (by decide +kernel)) ggX8_reckonWholes_X8_succeed
theorem dX8_reckonWholes_0 : decode cX8_reckonWholes 0 = .ok (.iload_n 1, 1) := by decide +kernel
theorem dX8_reckonWholes_1 : decode cX8_reckonWholes 1 = .ok (.iconst 3, 1) := by decide +kernel
theorem dX8_reckonWholes_2 : decode cX8_reckonWholes 2 = .ok (.if_icmp .lt 16, 3) := by decide +kernel
theorem dX8_reckonWholes_5 : decode cX8_reckonWholes 5 = .ok (.lload 5, 2) := by decide +kernel
theorem dX8_reckonWholes_7 : decode cX8_reckonWholes 7 = .ok (.lconst 0, 1) := by decide +kernel
theorem dX8_reckonWholes_8 : decode cX8_reckonWholes 8 = .ok (.lcmp, 1) := by decide +kernel
theorem dX8_reckonWholes_9 : decode cX8_reckonWholes 9 = .ok (.ifCond .ne 9, 3) := by decide +kernel
theorem dX8_reckonWholes_12 : decode cX8_reckonWholes 12 = .ok (.aload_n 0, 1) := by decide +kernel
theorem dX8_reckonWholes_13 : decode cX8_reckonWholes 13 = .ok (.iconst 4, 1) := by decide +kernel
theorem dX8_reckonWholes_14 : decode cX8_reckonWholes 14 = .ok (.invokevirtual 139, 3) := by decide +kernel
theorem dX8_reckonWholes_17 : decode cX8_reckonWholes 17 = .ok (.ireturn, 1) := by decide +kernel
theorem dX8_reckonWholes_18 : decode cX8_reckonWholes 18 = .ok (.iload_n 1, 1) := by decide +kernel
theorem dX8_reckonWholes_19 : decode cX8_reckonWholes 19 = .ok (.tableswitch 65 0 3 #[29, 38, 47, 56], 29) := by decide +kernel
theorem dX8_reckonWholes_48 : decode cX8_reckonWholes 48 = .ok (.lload_n 3, 1) := by decide +kernel
theorem dX8_reckonWholes_49 : decode cX8_reckonWholes 49 = .ok (.lload 5, 2) := by decide +kernel
theorem dX8_reckonWholes_51 : decode cX8_reckonWholes 51 = .ok (.ladd, 1) := by decide +kernel
theorem dX8_reckonWholes_52 : decode cX8_reckonWholes 52 = .ok (.lstore 8, 2) := by decide +kernel
theorem dX8_reckonWholes_54 : decode cX8_reckonWholes 54 = .ok (.goto 36, 3) := by decide +kernel
theorem dX8_reckonWholes_57 : decode cX8_reckonWholes 57 = .ok (.lload_n 3, 1) := by decide +kernel
theorem dX8_reckonWholes_58 : decode cX8_reckonWholes 58 = .ok (.lload 5, 2) := by decide +kernel
theorem dX8_reckonWholes_60 : decode cX8_reckonWholes 60 = .ok (.lsub, 1) := by decide +kernel
theorem dX8_reckonWholes_61 : decode cX8_reckonWholes 61 = .ok (.lstore 8, 2) := by decide +kernel
theorem dX8_reckonWholes_63 : decode cX8_reckonWholes 63 = .ok (.goto 27, 3) := by decide +kernel
theorem dX8_reckonWholes_66 : decode cX8_reckonWholes 66 = .ok (.lload_n 3, 1) := by decide +kernel
theorem dX8_reckonWholes_67 : decode cX8_reckonWholes 67 = .ok (.lload 5, 2) := by decide +kernel
theorem dX8_reckonWholes_69 : decode cX8_reckonWholes 69 = .ok (.lmul, 1) := by decide +kernel
theorem dX8_reckonWholes_70 : decode cX8_reckonWholes 70 = .ok (.lstore 8, 2) := by decide +kernel
theorem dX8_reckonWholes_72 : decode cX8_reckonWholes 72 = .ok (.goto 18, 3) := by decide +kernel
theorem dX8_reckonWholes_75 : decode cX8_reckonWholes 75 = .ok (.lload_n 3, 1) := by decide +kernel
theorem dX8_reckonWholes_76 : decode cX8_reckonWholes 76 = .ok (.lload 5, 2) := by decide +kernel
theorem dX8_reckonWholes_78 : decode cX8_reckonWholes 78 = .ok (.ldiv, 1) := by decide +kernel
theorem dX8_reckonWholes_79 : decode cX8_reckonWholes 79 = .ok (.lstore 8, 2) := by decide +kernel
theorem dX8_reckonWholes_81 : decode cX8_reckonWholes 81 = .ok (.goto 9, 3) := by decide +kernel
theorem dX8_reckonWholes_84 : decode cX8_reckonWholes 84 = .ok (.lload_n 3, 1) := by decide +kernel
theorem dX8_reckonWholes_85 : decode cX8_reckonWholes 85 = .ok (.lload 5, 2) := by decide +kernel
theorem dX8_reckonWholes_87 : decode cX8_reckonWholes 87 = .ok (.lrem, 1) := by decide +kernel
theorem dX8_reckonWholes_88 : decode cX8_reckonWholes 88 = .ok (.lstore 8, 2) := by decide +kernel
theorem dX8_reckonWholes_90 : decode cX8_reckonWholes 90 = .ok (.aload 7, 2) := by decide +kernel
theorem dX8_reckonWholes_92 : decode cX8_reckonWholes 92 = .ok (.iload_n 2, 1) := by decide +kernel
theorem dX8_reckonWholes_93 : decode cX8_reckonWholes 93 = .ok (.lload 8, 2) := by decide +kernel
theorem dX8_reckonWholes_95 : decode cX8_reckonWholes 95 = .ok (.invokevirtual 71, 3) := by decide +kernel
theorem dX8_reckonWholes_98 : decode cX8_reckonWholes 98 = .ok (.aload_n 0, 1) := by decide +kernel
theorem dX8_reckonWholes_99 : decode cX8_reckonWholes 99 = .ok (.iload_n 2, 1) := by decide +kernel
theorem dX8_reckonWholes_100 : decode cX8_reckonWholes 100 = .ok (.invokevirtual 159, 3) := by decide +kernel
theorem dX8_reckonWholes_103 : decode cX8_reckonWholes 103 = .ok (.ireturn, 1) := by decide +kernel
set_option maxRecDepth 20000 in
theorem ggX8_makeFloat_X8_leftOf : GoodIn wsX8_makeFloat wsX8_leftOf := goodIn_r _ [4, 5, 6, 7, 8, 9, 10, 11, 3, 12, 13, 14, 15, 16, 17, 18, 19, 20, 21, 22, 23, 24, 25, 26, 27, 28, 29, 30, 31, 32, 33, 34, 35, 36, 37, 38, 39, 40, 41, 42, 43, 44, 45] (by decide +kernel) (by decide +kernel)
set_option maxRecDepth 20000 in
theorem gX8_makeFloat_X8_leftOf : GoodIn wsX8_makeFloat (va_wsS RX8 190 yX8_leftOf wsX8_leftOf) := goodIn_app (goodIn_of _ (by decide +kernel)) ggX8_makeFloat_X8_leftOf
theorem dX8_makeFloat_0 : decode cX8_makeFloat 0 = .ok (.iload_n 0, 1) := by decide +kernel
theorem dX8_makeFloat_1 : decode cX8_makeFloat 1 = .ok (.tableswitch 47 0 3 #[31, 35, 39, 43], 31) := by decide +kernel
theorem dX8_makeFloat_32 : decode cX8_makeFloat 32 = .ok (.fload_n 1, 1) := by decide +kernel
theorem dX8_makeFloat_33 : decode cX8_makeFloat 33 = .ok (.fload_n 2, 1) := by decide +kernel
theorem dX8_makeFloat_34 : decode cX8_makeFloat 34 = .ok (.fadd, 1) := by decide +kernel
theorem dX8_makeFloat_35 : decode cX8_makeFloat 35 = .ok (.freturn, 1) := by decide +kernel
theorem dX8_makeFloat_36 : decode cX8_makeFloat 36 = .ok (.fload_n 1, 1) := by decide +kernel
theorem dX8_makeFloat_37 : decode cX8_makeFloat 37 = .ok (.fload_n 2, 1) := by decide +kernel
theorem dX8_makeFloat_38 : decode cX8_makeFloat 38 = .ok (.fsub, 1) := by decide +kernel
theorem dX8_makeFloat_39 : decode cX8_makeFloat 39 = .ok (.freturn, 1) := by decide +kernel
theorem dX8_makeFloat_40 : decode cX8_makeFloat 40 = .ok (.fload_n 1, 1) := by decide +kernel
theorem dX8_makeFloat_41 : decode cX8_makeFloat 41 = .ok (.fload_n 2, 1) := by decide +kernel
theorem dX8_makeFloat_42 : decode cX8_makeFloat 42 = .ok (.fmul, 1) := by decide +kernel
theorem dX8_makeFloat_43 : decode cX8_makeFloat 43 = .ok (.freturn, 1) := by decide +kernel
theorem dX8_makeFloat_44 : decode cX8_makeFloat 44 = .ok (.fload_n 1, 1) := by decide +kernel
theorem dX8_makeFloat_45 : decode cX8_makeFloat 45 = .ok (.fload_n 2, 1) := by decide +kernel
theorem dX8_makeFloat_46 : decode cX8_makeFloat 46 = .ok (.fdiv, 1) := by decide +kernel
theorem dX8_makeFloat_47 : decode cX8_makeFloat 47 = .ok (.freturn, 1) := by decide +kernel
theorem dX8_makeFloat_48 : decode cX8_makeFloat 48 = .ok (.fload_n 1, 1) := by decide +kernel
theorem dX8_makeFloat_49 : decode cX8_makeFloat 49 = .ok (.f2d, 1) := by decide +kernel
theorem dX8_makeFloat_50 : decode cX8_makeFloat 50 = .ok (.fload_n 2, 1) := by decide +kernel
theorem dX8_makeFloat_51 : decode cX8_makeFloat 51 = .ok (.f2d, 1) := by decide +kernel
theorem dX8_makeFloat_52 : decode cX8_makeFloat 52 = .ok (.invokestatic 190, 3) := by decide +kernel
theorem dX8_makeFloat_55 : decode cX8_makeFloat 55 = .ok (.d2f, 1) := by decide +kernel
theorem dX8_makeFloat_56 : decode cX8_makeFloat 56 = .ok (.freturn, 1) := by decide +kernel
set_option maxRecDepth 20000 in
theorem ggX8_makeDouble_X8_leftOf : GoodIn wsX8_makeDouble wsX8_leftOf := goodIn_r _ [4, 5, 6, 7, 8, 9, 10, 11, 3, 12, 13, 14, 15, 16, 17, 18, 19, 20, 21, 22, 23, 24, 25, 26, 27, 28, 29, 30, 31, 32, 33, 34, 35, 36, 37, 38, 39, 40, 41, 42, 43, 44, 45] (by decide +kernel) (by decide +kernel)
set_option maxRecDepth 20000 in
theorem gX8_makeDouble_X8_leftOf : GoodIn wsX8_makeDouble (va_wsS RX8 190 yX8_leftOf wsX8_leftOf) := goodIn_app (goodIn_of _ (by decide +kernel)) ggX8_makeDouble_X8_leftOf
theorem dX8_makeDouble_0 : decode cX8_makeDouble 0 = .ok (.iload_n 0, 1) := by decide +kernel
theorem dX8_makeDouble_1 : decode cX8_makeDouble 1 = .ok (.tableswitch 47 0 3 #[31, 35, 39, 43], 31) := by decide +kernel
theorem dX8_makeDouble_32 : decode cX8_makeDouble 32 = .ok (.dload_n 1, 1) := by decide +kernel
theorem dX8_makeDouble_33 : decode cX8_makeDouble 33 = .ok (.dload_n 3, 1) := by decide +kernel
theorem dX8_makeDouble_34 : decode cX8_makeDouble 34 = .ok (.dadd, 1) := by decide +kernel
theorem dX8_makeDouble_35 : decode cX8_makeDouble 35 = .ok (.dreturn, 1) := by decide +kernel
theorem dX8_makeDouble_36 : decode cX8_makeDouble 36 = .ok (.dload_n 1, 1) := by decide +kernel
theorem dX8_makeDouble_37 : decode cX8_makeDouble 37 = .ok (.dload_n 3, 1) := by decide +kernel
theorem dX8_makeDouble_38 : decode cX8_makeDouble 38 = .ok (.dsub, 1) := by decide +kernel
theorem dX8_makeDouble_39 : decode cX8_makeDouble 39 = .ok (.dreturn, 1) := by decide +kernel
theorem dX8_makeDouble_40 : decode cX8_makeDouble 40 = .ok (.dload_n 1, 1) := by decide +kernel
theorem dX8_makeDouble_41 : decode cX8_makeDouble 41 = .ok (.dload_n 3, 1) := by decide +kernel
theorem dX8_makeDouble_42 : decode cX8_makeDouble 42 = .ok (.dmul, 1) := by decide +kernel
theorem dX8_makeDouble_43 : decode cX8_makeDouble 43 = .ok (.dreturn, 1) := by decide +kernel
theorem dX8_makeDouble_44 : decode cX8_makeDouble 44 = .ok (.dload_n 1, 1) := by decide +kernel
theorem dX8_makeDouble_45 : decode cX8_makeDouble 45 = .ok (.dload_n 3, 1) := by decide +kernel
theorem dX8_makeDouble_46 : decode cX8_makeDouble 46 = .ok (.ddiv, 1) := by decide +kernel
theorem dX8_makeDouble_47 : decode cX8_makeDouble 47 = .ok (.dreturn, 1) := by decide +kernel
theorem dX8_makeDouble_48 : decode cX8_makeDouble 48 = .ok (.dload_n 1, 1) := by decide +kernel
theorem dX8_makeDouble_49 : decode cX8_makeDouble 49 = .ok (.dload_n 3, 1) := by decide +kernel
theorem dX8_makeDouble_50 : decode cX8_makeDouble 50 = .ok (.invokestatic 190, 3) := by decide +kernel
theorem dX8_makeDouble_53 : decode cX8_makeDouble 53 = .ok (.dreturn, 1) := by decide +kernel
set_option maxRecDepth 20000 in
theorem ggX8_isVoid_X8_isEndless : GoodIn wsX8_isVoid wsX8_isEndless := goodIn_r _ [4, 5] (by decide +kernel) (by decide +kernel)
set_option maxRecDepth 20000 in
theorem gX8_isVoid_X8_isEndless : GoodIn wsX8_isVoid (va_wsS RX8 186 yX8_isEndless wsX8_isEndless) := goodIn_app (goodIn_of _ (by decide +kernel)) ggX8_isVoid_X8_isEndless
theorem dX8_isVoid_0 : decode cX8_isVoid 0 = .ok (.iload_n 0, 1) := by decide +kernel
theorem dX8_isVoid_1 : decode cX8_isVoid 1 = .ok (.tableswitch 147 0 3 #[31, 57, 83, 115], 31) := by decide +kernel
theorem dX8_isVoid_32 : decode cX8_isVoid 32 = .ok (.dload_n 1, 1) := by decide +kernel
theorem dX8_isVoid_33 : decode cX8_isVoid 33 = .ok (.invokestatic 186, 3) := by decide +kernel
theorem dX8_isVoid_36 : decode cX8_isVoid 36 = .ok (.ifCond .eq 20, 3) := by decide +kernel
theorem dX8_isVoid_39 : decode cX8_isVoid 39 = .ok (.dload_n 3, 1) := by decide +kernel
theorem dX8_isVoid_40 : decode cX8_isVoid 40 = .ok (.invokestatic 186, 3) := by decide +kernel
theorem dX8_isVoid_43 : decode cX8_isVoid 43 = .ok (.ifCond .eq 13, 3) := by decide +kernel
theorem dX8_isVoid_46 : decode cX8_isVoid 46 = .ok (.dload_n 1, 1) := by decide +kernel
theorem dX8_isVoid_47 : decode cX8_isVoid 47 = .ok (.dload_n 3, 1) := by decide +kernel
theorem dX8_isVoid_48 : decode cX8_isVoid 48 = .ok (.dcmp .l, 1) := by decide +kernel
theorem dX8_isVoid_49 : decode cX8_isVoid 49 = .ok (.ifCond .eq 7, 3) := by decide +kernel
theorem dX8_isVoid_52 : decode cX8_isVoid 52 = .ok (.iconst 1, 1) := by decide +kernel
theorem dX8_isVoid_53 : decode cX8_isVoid 53 = .ok (.goto 4, 3) := by decide +kernel
theorem dX8_isVoid_56 : decode cX8_isVoid 56 = .ok (.iconst 0, 1) := by decide +kernel
theorem dX8_isVoid_57 : decode cX8_isVoid 57 = .ok (.ireturn, 1) := by decide +kernel
theorem dX8_isVoid_58 : decode cX8_isVoid 58 = .ok (.dload_n 1, 1) := by decide +kernel
theorem dX8_isVoid_59 : decode cX8_isVoid 59 = .ok (.invokestatic 186, 3) := by decide +kernel
theorem dX8_isVoid_62 : decode cX8_isVoid 62 = .ok (.ifCond .eq 20, 3) := by decide +kernel
theorem dX8_isVoid_65 : decode cX8_isVoid 65 = .ok (.dload_n 3, 1) := by decide +kernel
theorem dX8_isVoid_66 : decode cX8_isVoid 66 = .ok (.invokestatic 186, 3) := by decide +kernel
theorem dX8_isVoid_69 : decode cX8_isVoid 69 = .ok (.ifCond .eq 13, 3) := by decide +kernel
theorem dX8_isVoid_72 : decode cX8_isVoid 72 = .ok (.dload_n 1, 1) := by decide +kernel
theorem dX8_isVoid_73 : decode cX8_isVoid 73 = .ok (.dload_n 3, 1) := by decide +kernel
theorem dX8_isVoid_74 : decode cX8_isVoid 74 = .ok (.dcmp .l, 1) := by decide +kernel
theorem dX8_isVoid_75 : decode cX8_isVoid 75 = .ok (.ifCond .ne 7, 3) := by decide +kernel
theorem dX8_isVoid_78 : decode cX8_isVoid 78 = .ok (.iconst 1, 1) := by decide +kernel
theorem dX8_isVoid_79 : decode cX8_isVoid 79 = .ok (.goto 4, 3) := by decide +kernel
theorem dX8_isVoid_82 : decode cX8_isVoid 82 = .ok (.iconst 0, 1) := by decide +kernel
theorem dX8_isVoid_83 : decode cX8_isVoid 83 = .ok (.ireturn, 1) := by decide +kernel
theorem dX8_isVoid_84 : decode cX8_isVoid 84 = .ok (.dload_n 1, 1) := by decide +kernel
theorem dX8_isVoid_85 : decode cX8_isVoid 85 = .ok (.invokestatic 186, 3) := by decide +kernel
theorem dX8_isVoid_88 : decode cX8_isVoid 88 = .ok (.ifCond .eq 9, 3) := by decide +kernel
theorem dX8_isVoid_91 : decode cX8_isVoid 91 = .ok (.dload_n 3, 1) := by decide +kernel
theorem dX8_isVoid_92 : decode cX8_isVoid 92 = .ok (.dconst 0, 1) := by decide +kernel
theorem dX8_isVoid_93 : decode cX8_isVoid 93 = .ok (.dcmp .l, 1) := by decide +kernel
theorem dX8_isVoid_94 : decode cX8_isVoid 94 = .ok (.ifCond .eq 16, 3) := by decide +kernel
theorem dX8_isVoid_97 : decode cX8_isVoid 97 = .ok (.dload_n 1, 1) := by decide +kernel
theorem dX8_isVoid_98 : decode cX8_isVoid 98 = .ok (.dconst 0, 1) := by decide +kernel
theorem dX8_isVoid_99 : decode cX8_isVoid 99 = .ok (.dcmp .l, 1) := by decide +kernel
theorem dX8_isVoid_100 : decode cX8_isVoid 100 = .ok (.ifCond .ne 14, 3) := by decide +kernel
theorem dX8_isVoid_103 : decode cX8_isVoid 103 = .ok (.dload_n 3, 1) := by decide +kernel
theorem dX8_isVoid_104 : decode cX8_isVoid 104 = .ok (.invokestatic 186, 3) := by decide +kernel
theorem dX8_isVoid_107 : decode cX8_isVoid 107 = .ok (.ifCond .eq 7, 3) := by decide +kernel
theorem dX8_isVoid_110 : decode cX8_isVoid 110 = .ok (.iconst 1, 1) := by decide +kernel
theorem dX8_isVoid_111 : decode cX8_isVoid 111 = .ok (.goto 4, 3) := by decide +kernel
theorem dX8_isVoid_114 : decode cX8_isVoid 114 = .ok (.iconst 0, 1) := by decide +kernel
theorem dX8_isVoid_115 : decode cX8_isVoid 115 = .ok (.ireturn, 1) := by decide +kernel
theorem dX8_isVoid_116 : decode cX8_isVoid 116 = .ok (.dload_n 1, 1) := by decide +kernel
theorem dX8_isVoid_117 : decode cX8_isVoid 117 = .ok (.invokestatic 186, 3) := by decide +kernel
theorem dX8_isVoid_120 : decode cX8_isVoid 120 = .ok (.ifCond .eq 10, 3) := by decide +kernel
theorem dX8_isVoid_123 : decode cX8_isVoid 123 = .ok (.dload_n 3, 1) := by decide +kernel
theorem dX8_isVoid_124 : decode cX8_isVoid 124 = .ok (.invokestatic 186, 3) := by decide +kernel
theorem dX8_isVoid_127 : decode cX8_isVoid 127 = .ok (.ifCond .ne 15, 3) := by decide +kernel
theorem dX8_isVoid_130 : decode cX8_isVoid 130 = .ok (.dload_n 1, 1) := by decide +kernel
theorem dX8_isVoid_131 : decode cX8_isVoid 131 = .ok (.dconst 0, 1) := by decide +kernel
theorem dX8_isVoid_132 : decode cX8_isVoid 132 = .ok (.dcmp .l, 1) := by decide +kernel
theorem dX8_isVoid_133 : decode cX8_isVoid 133 = .ok (.ifCond .ne 13, 3) := by decide +kernel
theorem dX8_isVoid_136 : decode cX8_isVoid 136 = .ok (.dload_n 3, 1) := by decide +kernel
theorem dX8_isVoid_137 : decode cX8_isVoid 137 = .ok (.dconst 0, 1) := by decide +kernel
theorem dX8_isVoid_138 : decode cX8_isVoid 138 = .ok (.dcmp .l, 1) := by decide +kernel
theorem dX8_isVoid_139 : decode cX8_isVoid 139 = .ok (.ifCond .ne 7, 3) := by decide +kernel
theorem dX8_isVoid_142 : decode cX8_isVoid 142 = .ok (.iconst 1, 1) := by decide +kernel
theorem dX8_isVoid_143 : decode cX8_isVoid 143 = .ok (.goto 4, 3) := by decide +kernel
theorem dX8_isVoid_146 : decode cX8_isVoid 146 = .ok (.iconst 0, 1) := by decide +kernel
theorem dX8_isVoid_147 : decode cX8_isVoid 147 = .ok (.ireturn, 1) := by decide +kernel
theorem dX8_isVoid_148 : decode cX8_isVoid 148 = .ok (.dload_n 1, 1) := by decide +kernel
theorem dX8_isVoid_149 : decode cX8_isVoid 149 = .ok (.invokestatic 186, 3) := by decide +kernel
theorem dX8_isVoid_152 : decode cX8_isVoid 152 = .ok (.ifCond .ne 9, 3) := by decide +kernel
theorem dX8_isVoid_155 : decode cX8_isVoid 155 = .ok (.dload_n 3, 1) := by decide +kernel
theorem dX8_isVoid_156 : decode cX8_isVoid 156 = .ok (.dconst 0, 1) := by decide +kernel
theorem dX8_isVoid_157 : decode cX8_isVoid 157 = .ok (.dcmp .l, 1) := by decide +kernel
theorem dX8_isVoid_158 : decode cX8_isVoid 158 = .ok (.ifCond .ne 7, 3) := by decide +kernel
theorem dX8_isVoid_161 : decode cX8_isVoid 161 = .ok (.iconst 1, 1) := by decide +kernel
theorem dX8_isVoid_162 : decode cX8_isVoid 162 = .ok (.goto 4, 3) := by decide +kernel
theorem dX8_isVoid_165 : decode cX8_isVoid 165 = .ok (.iconst 0, 1) := by decide +kernel
theorem dX8_isVoid_166 : decode cX8_isVoid 166 = .ok (.ireturn, 1) := by decide +kernel
theorem dX8_isEndless_0 : decode cX8_isEndless 0 = .ok (.ldc2_w 268, 3) := by decide +kernel
theorem dX8_isEndless_3 : decode cX8_isEndless 3 = .ok (.dstore_n 2, 1) := by decide +kernel
theorem dX8_isEndless_4 : decode cX8_isEndless 4 = .ok (.dload_n 0, 1) := by decide +kernel
theorem dX8_isEndless_5 : decode cX8_isEndless 5 = .ok (.dload_n 2, 1) := by decide +kernel
theorem dX8_isEndless_6 : decode cX8_isEndless 6 = .ok (.dcmp .l, 1) := by decide +kernel
theorem dX8_isEndless_7 : decode cX8_isEndless 7 = .ok (.ifCond .gt 10, 3) := by decide +kernel
theorem dX8_isEndless_10 : decode cX8_isEndless 10 = .ok (.dload_n 0, 1) := by decide +kernel
theorem dX8_isEndless_11 : decode cX8_isEndless 11 = .ok (.dload_n 2, 1) := by decide +kernel
theorem dX8_isEndless_12 : decode cX8_isEndless 12 = .ok (.dneg, 1) := by decide +kernel
theorem dX8_isEndless_13 : decode cX8_isEndless 13 = .ok (.dcmp .g, 1) := by decide +kernel
theorem dX8_isEndless_14 : decode cX8_isEndless 14 = .ok (.ifCond .ge 7, 3) := by decide +kernel
theorem dX8_isEndless_17 : decode cX8_isEndless 17 = .ok (.iconst 1, 1) := by decide +kernel
theorem dX8_isEndless_18 : decode cX8_isEndless 18 = .ok (.goto 4, 3) := by decide +kernel
theorem dX8_isEndless_21 : decode cX8_isEndless 21 = .ok (.iconst 0, 1) := by decide +kernel
theorem dX8_isEndless_22 : decode cX8_isEndless 22 = .ok (.ireturn, 1) := by decide +kernel
set_option maxRecDepth 20000 in
theorem ggX8_leftOf_X8_isEndless : GoodIn wsX8_leftOf wsX8_isEndless := goodIn_r _ [9, 10] (by decide +kernel) (by decide +kernel)
set_option maxRecDepth 20000 in
theorem gX8_leftOf_X8_isEndless : GoodIn wsX8_leftOf (va_wsS RX8 186 yX8_isEndless wsX8_isEndless) := goodIn_app (goodIn_of _ (by decide +kernel)) ggX8_leftOf_X8_isEndless
set_option maxRecDepth 20000 in
theorem ggX8_leftOf_X2_sizeOf : GoodIn wsX8_leftOf wsX2_sizeOf := goodIn_r _ [15, 16, 17, 18, 7, 8, 9, 10, 19, 20, 21, 14, 22, 23, 24, 25, 26, 27, 28, 29, 4, 30] (by decide +kernel) (by decide +kernel)
set_option maxRecDepth 20000 in
theorem gX8_leftOf_X2_sizeOf : GoodIn wsX8_leftOf (wsV RX8 270 RX2 yX2_sizeOf wsX2_sizeOf) := goodIn_app (goodIn_of _ (by decide +kernel)) ggX8_leftOf_X2_sizeOf
set_option maxRecDepth 20000 in
theorem ggX8_leftOf_X2_stepsOf : GoodIn wsX8_leftOf wsX2_stepsOf := goodIn_r _ [34, 17] (by decide +kernel) (by decide +kernel)
set_option maxRecDepth 20000 in
theorem gX8_leftOf_X2_stepsOf : GoodIn wsX8_leftOf (wsV RX8 273 RX2 yX2_stepsOf wsX2_stepsOf) := goodIn_app (goodIn_of _ (by decide +kernel)) ggX8_leftOf_X2_stepsOf
set_option maxRecDepth 20000 in
theorem ggX8_leftOf_X2_powerOf : GoodIn wsX8_leftOf wsX2_powerOf := goodIn_r _ [38, 17, 39, 40, 4, 41, 16] (by decide +kernel) (by decide +kernel)
set_option maxRecDepth 20000 in
theorem gX8_leftOf_X2_powerOf : GoodIn wsX8_leftOf (wsV RX8 277 RX2 yX2_powerOf wsX2_powerOf) := goodIn_app (goodIn_of _ (by decide +kernel)) ggX8_leftOf_X2_powerOf
set_option maxRecDepth 20000 in
theorem ggX8_leftOf_X8_powerOfTwo : GoodIn wsX8_leftOf wsX8_powerOfTwo := goodIn_r _ [25, 26, 27, 28, 29, 4, 30] (by decide +kernel) (by decide +kernel)
set_option maxRecDepth 20000 in
theorem gX8_leftOf_X8_powerOfTwo : GoodIn wsX8_leftOf (va_wsS RX8 281 yX8_powerOfTwo wsX8_powerOfTwo) := goodIn_app (goodIn_of _ (by decide +kernel)) ggX8_leftOf_X8_powerOfTwo
theorem dX8_leftOf_0 : decode cX8_leftOf 0 = .ok (.dload_n 0, 1) := by decide +kernel
theorem dX8_leftOf_1 : decode cX8_leftOf 1 = .ok (.dconst 0, 1) := by decide +kernel
theorem dX8_leftOf_2 : decode cX8_leftOf 2 = .ok (.dcmp .l, 1) := by decide +kernel
theorem dX8_leftOf_3 : decode cX8_leftOf 3 = .ok (.ifCond .eq 10, 3) := by decide +kernel
theorem dX8_leftOf_6 : decode cX8_leftOf 6 = .ok (.dload_n 2, 1) := by decide +kernel
theorem dX8_leftOf_7 : decode cX8_leftOf 7 = .ok (.invokestatic 186, 3) := by decide +kernel
theorem dX8_leftOf_10 : decode cX8_leftOf 10 = .ok (.ifCond .eq 5, 3) := by decide +kernel
theorem dX8_leftOf_13 : decode cX8_leftOf 13 = .ok (.dload_n 0, 1) := by decide +kernel
theorem dX8_leftOf_14 : decode cX8_leftOf 14 = .ok (.dreturn, 1) := by decide +kernel
theorem dX8_leftOf_15 : decode cX8_leftOf 15 = .ok (.getstatic 166, 3) := by decide +kernel
theorem dX8_leftOf_18 : decode cX8_leftOf 18 = .ok (.dload_n 0, 1) := by decide +kernel
theorem dX8_leftOf_19 : decode cX8_leftOf 19 = .ok (.dconst 0, 1) := by decide +kernel
theorem dX8_leftOf_20 : decode cX8_leftOf 20 = .ok (.dcmp .g, 1) := by decide +kernel
theorem dX8_leftOf_21 : decode cX8_leftOf 21 = .ok (.ifCond .ge 8, 3) := by decide +kernel
theorem dX8_leftOf_24 : decode cX8_leftOf 24 = .ok (.dload_n 0, 1) := by decide +kernel
theorem dX8_leftOf_25 : decode cX8_leftOf 25 = .ok (.dneg, 1) := by decide +kernel
theorem dX8_leftOf_26 : decode cX8_leftOf 26 = .ok (.goto 4, 3) := by decide +kernel
theorem dX8_leftOf_29 : decode cX8_leftOf 29 = .ok (.dload_n 0, 1) := by decide +kernel
theorem dX8_leftOf_30 : decode cX8_leftOf 30 = .ok (.invokevirtual 270, 3) := by decide +kernel
theorem dX8_leftOf_33 : decode cX8_leftOf 33 = .ok (.lstore 4, 2) := by decide +kernel
theorem dX8_leftOf_35 : decode cX8_leftOf 35 = .ok (.getstatic 166, 3) := by decide +kernel
theorem dX8_leftOf_38 : decode cX8_leftOf 38 = .ok (.dload_n 2, 1) := by decide +kernel
theorem dX8_leftOf_39 : decode cX8_leftOf 39 = .ok (.dconst 0, 1) := by decide +kernel
theorem dX8_leftOf_40 : decode cX8_leftOf 40 = .ok (.dcmp .g, 1) := by decide +kernel
theorem dX8_leftOf_41 : decode cX8_leftOf 41 = .ok (.ifCond .ge 8, 3) := by decide +kernel
theorem dX8_leftOf_44 : decode cX8_leftOf 44 = .ok (.dload_n 2, 1) := by decide +kernel
theorem dX8_leftOf_45 : decode cX8_leftOf 45 = .ok (.dneg, 1) := by decide +kernel
theorem dX8_leftOf_46 : decode cX8_leftOf 46 = .ok (.goto 4, 3) := by decide +kernel
theorem dX8_leftOf_49 : decode cX8_leftOf 49 = .ok (.dload_n 2, 1) := by decide +kernel
theorem dX8_leftOf_50 : decode cX8_leftOf 50 = .ok (.invokevirtual 270, 3) := by decide +kernel
theorem dX8_leftOf_53 : decode cX8_leftOf 53 = .ok (.lstore 6, 2) := by decide +kernel
theorem dX8_leftOf_55 : decode cX8_leftOf 55 = .ok (.getstatic 166, 3) := by decide +kernel
theorem dX8_leftOf_58 : decode cX8_leftOf 58 = .ok (.lload 6, 2) := by decide +kernel
theorem dX8_leftOf_60 : decode cX8_leftOf 60 = .ok (.invokevirtual 273, 3) := by decide +kernel
theorem dX8_leftOf_63 : decode cX8_leftOf 63 = .ok (.lstore 8, 2) := by decide +kernel
theorem dX8_leftOf_65 : decode cX8_leftOf 65 = .ok (.getstatic 166, 3) := by decide +kernel
theorem dX8_leftOf_68 : decode cX8_leftOf 68 = .ok (.lload 6, 2) := by decide +kernel
theorem dX8_leftOf_70 : decode cX8_leftOf 70 = .ok (.invokevirtual 277, 3) := by decide +kernel
theorem dX8_leftOf_73 : decode cX8_leftOf 73 = .ok (.istore 10, 2) := by decide +kernel
theorem dX8_leftOf_75 : decode cX8_leftOf 75 = .ok (.getstatic 166, 3) := by decide +kernel
theorem dX8_leftOf_78 : decode cX8_leftOf 78 = .ok (.lload 4, 2) := by decide +kernel
theorem dX8_leftOf_80 : decode cX8_leftOf 80 = .ok (.invokevirtual 277, 3) := by decide +kernel
theorem dX8_leftOf_83 : decode cX8_leftOf 83 = .ok (.iload 10, 2) := by decide +kernel
theorem dX8_leftOf_85 : decode cX8_leftOf 85 = .ok (.isub, 1) := by decide +kernel
theorem dX8_leftOf_86 : decode cX8_leftOf 86 = .ok (.istore 11, 2) := by decide +kernel
theorem dX8_leftOf_88 : decode cX8_leftOf 88 = .ok (.iload 11, 2) := by decide +kernel
theorem dX8_leftOf_90 : decode cX8_leftOf 90 = .ok (.ifCond .lt 10, 3) := by decide +kernel
theorem dX8_leftOf_93 : decode cX8_leftOf 93 = .ok (.lload 8, 2) := by decide +kernel
theorem dX8_leftOf_95 : decode cX8_leftOf 95 = .ok (.lconst 0, 1) := by decide +kernel
theorem dX8_leftOf_96 : decode cX8_leftOf 96 = .ok (.lcmp, 1) := by decide +kernel
theorem dX8_leftOf_97 : decode cX8_leftOf 97 = .ok (.ifCond .ne 5, 3) := by decide +kernel
theorem dX8_leftOf_100 : decode cX8_leftOf 100 = .ok (.dload_n 0, 1) := by decide +kernel
theorem dX8_leftOf_101 : decode cX8_leftOf 101 = .ok (.dreturn, 1) := by decide +kernel
theorem dX8_leftOf_102 : decode cX8_leftOf 102 = .ok (.getstatic 166, 3) := by decide +kernel
theorem dX8_leftOf_105 : decode cX8_leftOf 105 = .ok (.lload 4, 2) := by decide +kernel
theorem dX8_leftOf_107 : decode cX8_leftOf 107 = .ok (.invokevirtual 273, 3) := by decide +kernel
theorem dX8_leftOf_110 : decode cX8_leftOf 110 = .ok (.lload 8, 2) := by decide +kernel
theorem dX8_leftOf_112 : decode cX8_leftOf 112 = .ok (.lrem, 1) := by decide +kernel
theorem dX8_leftOf_113 : decode cX8_leftOf 113 = .ok (.lstore 12, 2) := by decide +kernel
theorem dX8_leftOf_115 : decode cX8_leftOf 115 = .ok (.iload 11, 2) := by decide +kernel
theorem dX8_leftOf_117 : decode cX8_leftOf 117 = .ok (.ifCond .le 31, 3) := by decide +kernel
theorem dX8_leftOf_120 : decode cX8_leftOf 120 = .ok (.lload 12, 2) := by decide +kernel
theorem dX8_leftOf_122 : decode cX8_leftOf 122 = .ok (.lconst 0, 1) := by decide +kernel
theorem dX8_leftOf_123 : decode cX8_leftOf 123 = .ok (.lcmp, 1) := by decide +kernel
theorem dX8_leftOf_124 : decode cX8_leftOf 124 = .ok (.ifCond .eq 24, 3) := by decide +kernel
theorem dX8_leftOf_127 : decode cX8_leftOf 127 = .ok (.lload 12, 2) := by decide +kernel
theorem dX8_leftOf_129 : decode cX8_leftOf 129 = .ok (.iload 11, 2) := by decide +kernel
theorem dX8_leftOf_131 : decode cX8_leftOf 131 = .ok (.bipush 10, 2) := by decide +kernel
theorem dX8_leftOf_133 : decode cX8_leftOf 133 = .ok (.invokestatic 221, 3) := by decide +kernel
theorem dX8_leftOf_136 : decode cX8_leftOf 136 = .ok (.lshl, 1) := by decide +kernel
theorem dX8_leftOf_137 : decode cX8_leftOf 137 = .ok (.lload 8, 2) := by decide +kernel
theorem dX8_leftOf_139 : decode cX8_leftOf 139 = .ok (.lrem, 1) := by decide +kernel
theorem dX8_leftOf_140 : decode cX8_leftOf 140 = .ok (.lstore 12, 2) := by decide +kernel
theorem dX8_leftOf_142 : decode cX8_leftOf 142 = .ok (.iinc 11 (-10), 3) := by decide +kernel
theorem dX8_leftOf_145 : decode cX8_leftOf 145 = .ok (.goto (-30), 3) := by decide +kernel
theorem dX8_leftOf_148 : decode cX8_leftOf 148 = .ok (.lload 12, 2) := by decide +kernel
theorem dX8_leftOf_150 : decode cX8_leftOf 150 = .ok (.l2d, 1) := by decide +kernel
theorem dX8_leftOf_151 : decode cX8_leftOf 151 = .ok (.iload 10, 2) := by decide +kernel
theorem dX8_leftOf_153 : decode cX8_leftOf 153 = .ok (.invokestatic 281, 3) := by decide +kernel
theorem dX8_leftOf_156 : decode cX8_leftOf 156 = .ok (.dmul, 1) := by decide +kernel
theorem dX8_leftOf_157 : decode cX8_leftOf 157 = .ok (.dstore 14, 2) := by decide +kernel
theorem dX8_leftOf_159 : decode cX8_leftOf 159 = .ok (.dload_n 0, 1) := by decide +kernel
theorem dX8_leftOf_160 : decode cX8_leftOf 160 = .ok (.dconst 0, 1) := by decide +kernel
theorem dX8_leftOf_161 : decode cX8_leftOf 161 = .ok (.dcmp .g, 1) := by decide +kernel
theorem dX8_leftOf_162 : decode cX8_leftOf 162 = .ok (.ifCond .ge 9, 3) := by decide +kernel
theorem dX8_leftOf_165 : decode cX8_leftOf 165 = .ok (.dload 14, 2) := by decide +kernel
theorem dX8_leftOf_167 : decode cX8_leftOf 167 = .ok (.dneg, 1) := by decide +kernel
theorem dX8_leftOf_168 : decode cX8_leftOf 168 = .ok (.goto 5, 3) := by decide +kernel
theorem dX8_leftOf_171 : decode cX8_leftOf 171 = .ok (.dload 14, 2) := by decide +kernel
theorem dX8_leftOf_173 : decode cX8_leftOf 173 = .ok (.dreturn, 1) := by decide +kernel
theorem dX8_powerOfTwo_0 : decode cX8_powerOfTwo 0 = .ok (.dconst 1, 1) := by decide +kernel
theorem dX8_powerOfTwo_1 : decode cX8_powerOfTwo 1 = .ok (.dstore_n 1, 1) := by decide +kernel
theorem dX8_powerOfTwo_2 : decode cX8_powerOfTwo 2 = .ok (.iload_n 0, 1) := by decide +kernel
theorem dX8_powerOfTwo_3 : decode cX8_powerOfTwo 3 = .ok (.ifCond .ge 9, 3) := by decide +kernel
theorem dX8_powerOfTwo_6 : decode cX8_powerOfTwo 6 = .ok (.ldc2_w 284, 3) := by decide +kernel
theorem dX8_powerOfTwo_9 : decode cX8_powerOfTwo 9 = .ok (.goto 6, 3) := by decide +kernel
theorem dX8_powerOfTwo_12 : decode cX8_powerOfTwo 12 = .ok (.ldc2_w 286, 3) := by decide +kernel
theorem dX8_powerOfTwo_15 : decode cX8_powerOfTwo 15 = .ok (.dstore_n 3, 1) := by decide +kernel
theorem dX8_powerOfTwo_16 : decode cX8_powerOfTwo 16 = .ok (.iload_n 0, 1) := by decide +kernel
theorem dX8_powerOfTwo_17 : decode cX8_powerOfTwo 17 = .ok (.invokestatic 288, 3) := by decide +kernel
theorem dX8_powerOfTwo_20 : decode cX8_powerOfTwo 20 = .ok (.istore 5, 2) := by decide +kernel
theorem dX8_powerOfTwo_22 : decode cX8_powerOfTwo 22 = .ok (.iload 5, 2) := by decide +kernel
theorem dX8_powerOfTwo_24 : decode cX8_powerOfTwo 24 = .ok (.ifCond .le 27, 3) := by decide +kernel
theorem dX8_powerOfTwo_27 : decode cX8_powerOfTwo 27 = .ok (.iload 5, 2) := by decide +kernel
theorem dX8_powerOfTwo_29 : decode cX8_powerOfTwo 29 = .ok (.iconst 1, 1) := by decide +kernel
theorem dX8_powerOfTwo_30 : decode cX8_powerOfTwo 30 = .ok (.iand, 1) := by decide +kernel
theorem dX8_powerOfTwo_31 : decode cX8_powerOfTwo 31 = .ok (.ifCond .eq 7, 3) := by decide +kernel
theorem dX8_powerOfTwo_34 : decode cX8_powerOfTwo 34 = .ok (.dload_n 1, 1) := by decide +kernel
theorem dX8_powerOfTwo_35 : decode cX8_powerOfTwo 35 = .ok (.dload_n 3, 1) := by decide +kernel
theorem dX8_powerOfTwo_36 : decode cX8_powerOfTwo 36 = .ok (.dmul, 1) := by decide +kernel
theorem dX8_powerOfTwo_37 : decode cX8_powerOfTwo 37 = .ok (.dstore_n 1, 1) := by decide +kernel
theorem dX8_powerOfTwo_38 : decode cX8_powerOfTwo 38 = .ok (.dload_n 3, 1) := by decide +kernel
theorem dX8_powerOfTwo_39 : decode cX8_powerOfTwo 39 = .ok (.dload_n 3, 1) := by decide +kernel
theorem dX8_powerOfTwo_40 : decode cX8_powerOfTwo 40 = .ok (.dmul, 1) := by decide +kernel
theorem dX8_powerOfTwo_41 : decode cX8_powerOfTwo 41 = .ok (.dstore_n 3, 1) := by decide +kernel
theorem dX8_powerOfTwo_42 : decode cX8_powerOfTwo 42 = .ok (.iload 5, 2) := by decide +kernel
theorem dX8_powerOfTwo_44 : decode cX8_powerOfTwo 44 = .ok (.iconst 1, 1) := by decide +kernel
theorem dX8_powerOfTwo_45 : decode cX8_powerOfTwo 45 = .ok (.ishr, 1) := by decide +kernel
theorem dX8_powerOfTwo_46 : decode cX8_powerOfTwo 46 = .ok (.istore 5, 2) := by decide +kernel
theorem dX8_powerOfTwo_48 : decode cX8_powerOfTwo 48 = .ok (.goto (-26), 3) := by decide +kernel
theorem dX8_powerOfTwo_51 : decode cX8_powerOfTwo 51 = .ok (.dload_n 1, 1) := by decide +kernel
theorem dX8_powerOfTwo_52 : decode cX8_powerOfTwo 52 = .ok (.dreturn, 1) := by decide +kernel
theorem dX9_init_0 : decode cX9_init 0 = .ok (.aload_n 0, 1) := by decide +kernel
theorem dX9_init_1 : decode cX9_init 1 = .ok (.invokespecial 1, 3) := by decide +kernel
theorem dX9_init_4 : decode cX9_init 4 = .ok (.aload_n 0, 1) := by decide +kernel
theorem dX9_init_5 : decode cX9_init 5 = .ok (.bipush 10, 2) := by decide +kernel
theorem dX9_init_7 : decode cX9_init 7 = .ok (.newarray .int, 2) := by decide +kernel
theorem dX9_init_9 : decode cX9_init 9 = .ok (.putfield 7, 3) := by decide +kernel
theorem dX9_init_12 : decode cX9_init 12 = .ok (.aload_n 0, 1) := by decide +kernel
theorem dX9_init_13 : decode cX9_init 13 = .ok (.bipush 10, 2) := by decide +kernel
theorem dX9_init_15 : decode cX9_init 15 = .ok (.newarray .long, 2) := by decide +kernel
theorem dX9_init_17 : decode cX9_init 17 = .ok (.putfield 13, 3) := by decide +kernel
theorem dX9_init_20 : decode cX9_init 20 = .ok (.aload_n 0, 1) := by decide +kernel
theorem dX9_init_21 : decode cX9_init 21 = .ok (.bipush 6, 2) := by decide +kernel
theorem dX9_init_23 : decode cX9_init 23 = .ok (.newarray .double, 2) := by decide +kernel
theorem dX9_init_25 : decode cX9_init 25 = .ok (.putfield 17, 3) := by decide +kernel
theorem dX9_init_28 : decode cX9_init 28 = .ok (.aload_n 0, 1) := by decide +kernel
theorem dX9_init_29 : decode cX9_init 29 = .ok (.bipush 6, 2) := by decide +kernel
theorem dX9_init_31 : decode cX9_init 31 = .ok (.newarray .double, 2) := by decide +kernel
theorem dX9_init_33 : decode cX9_init 33 = .ok (.putfield 21, 3) := by decide +kernel
theorem dX9_init_36 : decode cX9_init 36 = .ok (.aload_n 0, 1) := by decide +kernel
theorem dX9_init_37 : decode cX9_init 37 = .ok (.bipush 6, 2) := by decide +kernel
theorem dX9_init_39 : decode cX9_init 39 = .ok (.newarray .double, 2) := by decide +kernel
theorem dX9_init_41 : decode cX9_init 41 = .ok (.putfield 24, 3) := by decide +kernel
theorem dX9_init_44 : decode cX9_init 44 = .ok (.aload_n 0, 1) := by decide +kernel
theorem dX9_init_45 : decode cX9_init 45 = .ok (.bipush 6, 2) := by decide +kernel
theorem dX9_init_47 : decode cX9_init 47 = .ok (.newarray .long, 2) := by decide +kernel
theorem dX9_init_49 : decode cX9_init 49 = .ok (.putfield 27, 3) := by decide +kernel
theorem dX9_init_52 : decode cX9_init 52 = .ok (.aload_n 0, 1) := by decide +kernel
theorem dX9_init_53 : decode cX9_init 53 = .ok (.bipush 8, 2) := by decide +kernel
theorem dX9_init_55 : decode cX9_init 55 = .ok (.newarray .int, 2) := by decide +kernel
theorem dX9_init_57 : decode cX9_init 57 = .ok (.putfield 30, 3) := by decide +kernel
theorem dX9_init_60 : decode cX9_init 60 = .ok (.aload_n 0, 1) := by decide +kernel
theorem dX9_init_61 : decode cX9_init 61 = .ok (.sipush 128, 3) := by decide +kernel
theorem dX9_init_64 : decode cX9_init 64 = .ok (.newarray .long, 2) := by decide +kernel
theorem dX9_init_66 : decode cX9_init 66 = .ok (.putfield 33, 3) := by decide +kernel
theorem dX9_init_69 : decode cX9_init 69 = .ok (.aload_n 0, 1) := by decide +kernel
theorem dX9_init_70 : decode cX9_init 70 = .ok (.bipush 30, 2) := by decide +kernel
theorem dX9_init_72 : decode cX9_init 72 = .ok (.newarray .int, 2) := by decide +kernel
theorem dX9_init_74 : decode cX9_init 74 = .ok (.putfield 36, 3) := by decide +kernel
theorem dX9_init_77 : decode cX9_init 77 = .ok (.aload_n 0, 1) := by decide +kernel
theorem dX9_init_78 : decode cX9_init 78 = .ok (.bipush 30, 2) := by decide +kernel
theorem dX9_init_80 : decode cX9_init 80 = .ok (.newarray .boolean, 2) := by decide +kernel
theorem dX9_init_82 : decode cX9_init 82 = .ok (.putfield 39, 3) := by decide +kernel
theorem dX9_init_85 : decode cX9_init 85 = .ok (.aload_n 0, 1) := by decide +kernel
theorem dX9_init_86 : decode cX9_init 86 = .ok (.iconst 5, 1) := by decide +kernel
theorem dX9_init_87 : decode cX9_init 87 = .ok (.newarray .int, 2) := by decide +kernel
theorem dX9_init_89 : decode cX9_init 89 = .ok (.putfield 43, 3) := by decide +kernel
theorem dX9_init_92 : decode cX9_init 92 = .ok (.aload_n 0, 1) := by decide +kernel
theorem dX9_init_93 : decode cX9_init 93 = .ok (.iconst 5, 1) := by decide +kernel
theorem dX9_init_94 : decode cX9_init 94 = .ok (.newarray .boolean, 2) := by decide +kernel
theorem dX9_init_96 : decode cX9_init 96 = .ok (.putfield 46, 3) := by decide +kernel
theorem dX9_init_99 : decode cX9_init 99 = .ok (.aload_n 0, 1) := by decide +kernel
theorem dX9_init_100 : decode cX9_init 100 = .ok (.bipush 60, 2) := by decide +kernel
theorem dX9_init_102 : decode cX9_init 102 = .ok (.newarray .int, 2) := by decide +kernel
theorem dX9_init_104 : decode cX9_init 104 = .ok (.putfield 49, 3) := by decide +kernel
theorem dX9_init_107 : decode cX9_init 107 = .ok (.aload_n 0, 1) := by decide +kernel
theorem dX9_init_108 : decode cX9_init 108 = .ok (.iconst 4, 1) := by decide +kernel
theorem dX9_init_109 : decode cX9_init 109 = .ok (.newarray .int, 2) := by decide +kernel
theorem dX9_init_111 : decode cX9_init 111 = .ok (.putfield 52, 3) := by decide +kernel
theorem dX9_init_114 : decode cX9_init 114 = .ok (.aload_n 0, 1) := by decide +kernel
theorem dX9_init_115 : decode cX9_init 115 = .ok (.iconst 4, 1) := by decide +kernel
theorem dX9_init_116 : decode cX9_init 116 = .ok (.newarray .double, 2) := by decide +kernel
theorem dX9_init_118 : decode cX9_init 118 = .ok (.putfield 55, 3) := by decide +kernel
theorem dX9_init_121 : decode cX9_init 121 = .ok (.aload_n 0, 1) := by decide +kernel
theorem dX9_init_122 : decode cX9_init 122 = .ok (.bipush 6, 2) := by decide +kernel
theorem dX9_init_124 : decode cX9_init 124 = .ok (.newarray .int, 2) := by decide +kernel
theorem dX9_init_126 : decode cX9_init 126 = .ok (.putfield 58, 3) := by decide +kernel
theorem dX9_init_129 : decode cX9_init 129 = .ok (.iconst 0, 1) := by decide +kernel
theorem dX9_init_130 : decode cX9_init 130 = .ok (.istore_n 1, 1) := by decide +kernel
theorem dX9_init_131 : decode cX9_init 131 = .ok (.iload_n 1, 1) := by decide +kernel
theorem dX9_init_132 : decode cX9_init 132 = .ok (.bipush 6, 2) := by decide +kernel
theorem dX9_init_134 : decode cX9_init 134 = .ok (.if_icmp .ge 16, 3) := by decide +kernel
theorem dX9_init_137 : decode cX9_init 137 = .ok (.aload_n 0, 1) := by decide +kernel
theorem dX9_init_138 : decode cX9_init 138 = .ok (.getfield 17, 3) := by decide +kernel
theorem dX9_init_141 : decode cX9_init 141 = .ok (.iload_n 1, 1) := by decide +kernel
theorem dX9_init_142 : decode cX9_init 142 = .ok (.dconst 1, 1) := by decide +kernel
theorem dX9_init_143 : decode cX9_init 143 = .ok (.dastore, 1) := by decide +kernel
theorem dX9_init_144 : decode cX9_init 144 = .ok (.iinc 1 1, 3) := by decide +kernel
theorem dX9_init_147 : decode cX9_init 147 = .ok (.goto (-16), 3) := by decide +kernel
theorem dX9_init_150 : decode cX9_init 150 = .ok (.iconst 0, 1) := by decide +kernel
theorem dX9_init_151 : decode cX9_init 151 = .ok (.istore_n 1, 1) := by decide +kernel
theorem dX9_init_152 : decode cX9_init 152 = .ok (.iload_n 1, 1) := by decide +kernel
theorem dX9_init_153 : decode cX9_init 153 = .ok (.bipush 8, 2) := by decide +kernel
theorem dX9_init_155 : decode cX9_init 155 = .ok (.if_icmp .ge 16, 3) := by decide +kernel
theorem dX9_init_158 : decode cX9_init 158 = .ok (.aload_n 0, 1) := by decide +kernel
theorem dX9_init_159 : decode cX9_init 159 = .ok (.getfield 30, 3) := by decide +kernel
theorem dX9_init_162 : decode cX9_init 162 = .ok (.iload_n 1, 1) := by decide +kernel
theorem dX9_init_163 : decode cX9_init 163 = .ok (.iconst (-1), 1) := by decide +kernel
theorem dX9_init_164 : decode cX9_init 164 = .ok (.iastore, 1) := by decide +kernel
theorem dX9_init_165 : decode cX9_init 165 = .ok (.iinc 1 1, 3) := by decide +kernel
theorem dX9_init_168 : decode cX9_init 168 = .ok (.goto (-16), 3) := by decide +kernel
theorem dX9_init_171 : decode cX9_init 171 = .ok (.iconst 0, 1) := by decide +kernel
theorem dX9_init_172 : decode cX9_init 172 = .ok (.istore_n 1, 1) := by decide +kernel
theorem dX9_init_173 : decode cX9_init 173 = .ok (.iload_n 1, 1) := by decide +kernel
theorem dX9_init_174 : decode cX9_init 174 = .ok (.iconst 5, 1) := by decide +kernel
theorem dX9_init_175 : decode cX9_init 175 = .ok (.if_icmp .ge 16, 3) := by decide +kernel
theorem dX9_init_178 : decode cX9_init 178 = .ok (.aload_n 0, 1) := by decide +kernel
theorem dX9_init_179 : decode cX9_init 179 = .ok (.getfield 43, 3) := by decide +kernel
theorem dX9_init_182 : decode cX9_init 182 = .ok (.iload_n 1, 1) := by decide +kernel
theorem dX9_init_183 : decode cX9_init 183 = .ok (.iconst (-1), 1) := by decide +kernel
theorem dX9_init_184 : decode cX9_init 184 = .ok (.iastore, 1) := by decide +kernel
theorem dX9_init_185 : decode cX9_init 185 = .ok (.iinc 1 1, 3) := by decide +kernel
theorem dX9_init_188 : decode cX9_init 188 = .ok (.goto (-15), 3) := by decide +kernel
theorem dX9_init_191 : decode cX9_init 191 = .ok (.iconst 0, 1) := by decide +kernel
theorem dX9_init_192 : decode cX9_init 192 = .ok (.istore_n 1, 1) := by decide +kernel
theorem dX9_init_193 : decode cX9_init 193 = .ok (.iload_n 1, 1) := by decide +kernel
theorem dX9_init_194 : decode cX9_init 194 = .ok (.iconst 4, 1) := by decide +kernel
theorem dX9_init_195 : decode cX9_init 195 = .ok (.if_icmp .ge 16, 3) := by decide +kernel
theorem dX9_init_198 : decode cX9_init 198 = .ok (.aload_n 0, 1) := by decide +kernel
theorem dX9_init_199 : decode cX9_init 199 = .ok (.getfield 52, 3) := by decide +kernel
theorem dX9_init_202 : decode cX9_init 202 = .ok (.iload_n 1, 1) := by decide +kernel
theorem dX9_init_203 : decode cX9_init 203 = .ok (.iconst 2, 1) := by decide +kernel
theorem dX9_init_204 : decode cX9_init 204 = .ok (.iastore, 1) := by decide +kernel
theorem dX9_init_205 : decode cX9_init 205 = .ok (.iinc 1 1, 3) := by decide +kernel
theorem dX9_init_208 : decode cX9_init 208 = .ok (.goto (-15), 3) := by decide +kernel
theorem dX9_init_211 : decode cX9_init 211 = .ok (.return_, 1) := by decide +kernel
theorem dX9_in_0 : decode cX9_in 0 = .ok (.lload_n 0, 1) := by decide +kernel
theorem dX9_in_1 : decode cX9_in 1 = .ok (.lload_n 2, 1) := by decide +kernel
theorem dX9_in_2 : decode cX9_in 2 = .ok (.lcmp, 1) := by decide +kernel
theorem dX9_in_3 : decode cX9_in 3 = .ok (.ifCond .lt 14, 3) := by decide +kernel
theorem dX9_in_6 : decode cX9_in 6 = .ok (.lload_n 0, 1) := by decide +kernel

theorem dX9_reckonDoubles_235 : decode cX9_reckonDoubles 235 = .ok (.invokestatic 98, 3) := by decide +kernel
theorem dX9_reckonDoubles_238 : decode cX9_reckonDoubles 238 = .ok (.putfield 131, 3) := by decide +kernel
theorem dX9_reckonDoubles_241 : decode cX9_reckonDoubles 241 = .ok (.return_, 1) := by decide +kernel
set_option maxRecDepth 20000 in
theorem ggX9_reckon_X9_isMeter : GoodIn wsX9_reckon wsX9_isMeter := goodIn_r _ [10, 11, 12, 13, 9, 14] (by decide +kernel) (by decide +kernel)
set_option maxRecDepth 20000 in
theorem gX9_reckon_X9_isMeter : GoodIn wsX9_reckon (va_wsS RX9 119 yX9_isMeter wsX9_isMeter) := goodIn_app (goodIn_of _ (by decide +kernel)) ggX9_reckon_X9_isMeter
set_option maxRecDepth 20000 in
theorem ggX9_reckon_X9_in : GoodIn wsX9_reckon wsX9_in := goodIn_r _ [14] (by decide +kernel) (by decide +kernel)
set_option maxRecDepth 20000 in
theorem gX9_reckon_X9_in : GoodIn wsX9_reckon (va_wsS RX9 115 yX9_in wsX9_in) := goodIn_app (goodIn_of _ (by decide +kernel)) ggX9_reckon_X9_in
set_option maxRecDepth 20000 in
theorem ggX9_reckon_X9_turned : GoodIn wsX9_reckon wsX9_turned := goodIn_r _ [17, 18, 19, 20, 21, 22, 23, 24, 25, 26, 27, 28, 29, 30, 31, 32, 33, 34, 35, 36, 37, 38, 39, 40, 41, 42, 43, 9, 44, 45, 46, 47, 48, 49, 50, 51, 52, 53] (by decide +kernel) (by decide +kernel)
set_option maxRecDepth 20000 in
theorem gX9_reckon_X9_turned : GoodIn wsX9_reckon (va_wsS RX9 109 yX9_turned wsX9_turned) := goodIn_app (goodIn_of _ (by decide +kernel)) ggX9_reckon_X9_turned
set_option maxRecDepth 20000 in
theorem ggX9_reckon_X9_reckonLongs : GoodIn wsX9_reckon wsX9_reckonLongs := goodIn_r _ [57, 3, 6, 81, 82, 83, 84, 85, 86, 87, 88, 89, 90, 91, 92, 93, 94, 95, 96, 97, 98, 99, 100] (by decide +kernel) (by decide +kernel)
set_option maxRecDepth 20000 in
theorem gX9_reckon_X9_reckonLongs : GoodIn wsX9_reckon (wsV RX9 145 RX9 yX9_reckonLongs wsX9_reckonLongs) := goodIn_app (goodIn_of _ (by decide +kernel)) ggX9_reckon_X9_reckonLongs
set_option maxRecDepth 20000 in
theorem ggX9_reckon_X9_floatOf : GoodIn wsX9_reckon wsX9_floatOf := goodIn_r _ [44, 45, 46, 47, 25] (by decide +kernel) (by decide +kernel)
set_option maxRecDepth 20000 in
theorem gX9_reckon_X9_floatOf : GoodIn wsX9_reckon (va_wsS RX9 102 yX9_floatOf wsX9_floatOf) := goodIn_app (goodIn_of _ (by decide +kernel)) ggX9_reckon_X9_floatOf
set_option maxRecDepth 20000 in
theorem ggX9_reckon_X9_reckonFloats : GoodIn wsX9_reckon wsX9_reckonFloats := goodIn_r _ [61, 3, 6, 62, 63, 9, 64, 65, 66, 18, 19, 20, 21, 22, 23, 24, 25, 26, 27, 28, 29, 81, 82, 83, 84, 85, 86, 87, 88, 89, 90, 91, 92, 93, 94, 95, 96, 97, 98, 99, 100] (by decide +kernel) (by decide +kernel)
set_option maxRecDepth 20000 in
theorem gX9_reckon_X9_reckonFloats : GoodIn wsX9_reckon (wsV RX9 149 RX9 yX9_reckonFloats wsX9_reckonFloats) := goodIn_app (goodIn_of _ (by decide +kernel)) ggX9_reckon_X9_reckonFloats
set_option maxRecDepth 20000 in
theorem ggX9_reckon_X9_doubleOf : GoodIn wsX9_reckon wsX9_doubleOf := goodIn_r _ [50, 51, 52, 53, 37] (by decide +kernel) (by decide +kernel)
set_option maxRecDepth 20000 in
theorem gX9_reckon_X9_doubleOf : GoodIn wsX9_reckon (va_wsS RX9 106 yX9_doubleOf wsX9_doubleOf) := goodIn_app (goodIn_of _ (by decide +kernel)) ggX9_reckon_X9_doubleOf
set_option maxRecDepth 20000 in
theorem ggX9_reckon_X9_reckonDoubles : GoodIn wsX9_reckon wsX9_reckonDoubles := goodIn_r _ [70, 3, 6, 71, 72, 9, 73, 74, 75, 30, 31, 32, 33, 34, 35, 36, 37, 38, 39, 40, 41, 81, 82, 83, 84, 85, 86, 87, 88, 89, 90, 91, 92, 93, 94, 95, 96, 97, 98, 99, 100] (by decide +kernel) (by decide +kernel)
set_option maxRecDepth 20000 in
theorem gX9_reckon_X9_reckonDoubles : GoodIn wsX9_reckon (wsV RX9 153 RX9 yX9_reckonDoubles wsX9_reckonDoubles) := goodIn_app (goodIn_of _ (by decide +kernel)) ggX9_reckon_X9_reckonDoubles
set_option maxRecDepth 20000 in
theorem ggX9_reckon_X9_answers : GoodIn wsX9_reckon wsX9_answers := goodIn_r _ [79, 3, 80, 81, 82, 83, 84, 85, 86, 87, 88, 89, 90, 91, 92, 93, 94, 95, 96, 97, 98, 99, 100] (by decide +kernel) (by decide +kernel)
set_option maxRecDepth 20000 in
theorem gX9_reckon_X9_answers : GoodIn wsX9_reckon (wsV RX9 157 RX9 yX9_answers wsX9_answers) := goodIn_app (goodIn_of _ (by decide +kernel)) ggX9_reckon_X9_answers
theorem dX9_reckon_0 : decode cX9_reckon 0 = .ok (.aload_n 0, 1) := by decide +kernel
theorem dX9_reckon_1 : decode cX9_reckon 1 = .ok (.iconst 0, 1) := by decide +kernel
theorem dX9_reckon_2 : decode cX9_reckon 2 = .ok (.putfield 61, 3) := by decide +kernel
theorem dX9_reckon_5 : decode cX9_reckon 5 = .ok (.iload_n 2, 1) := by decide +kernel
theorem dX9_reckon_6 : decode cX9_reckon 6 = .ok (.invokestatic 119, 3) := by decide +kernel
theorem dX9_reckon_9 : decode cX9_reckon 9 = .ok (.ifCond .eq 18, 3) := by decide +kernel
theorem dX9_reckon_12 : decode cX9_reckon 12 = .ok (.iload_n 3, 1) := by decide +kernel
theorem dX9_reckon_13 : decode cX9_reckon 13 = .ok (.invokestatic 119, 3) := by decide +kernel
theorem dX9_reckon_16 : decode cX9_reckon 16 = .ok (.ifCond .eq 11, 3) := by decide +kernel
theorem dX9_reckon_19 : decode cX9_reckon 19 = .ok (.iload 4, 2) := by decide +kernel
theorem dX9_reckon_21 : decode cX9_reckon 21 = .ok (.invokestatic 119, 3) := by decide +kernel
theorem dX9_reckon_24 : decode cX9_reckon 24 = .ok (.ifCond .ne 7, 3) := by decide +kernel
theorem dX9_reckon_27 : decode cX9_reckon 27 = .ok (.sipush (-1001), 3) := by decide +kernel
theorem dX9_reckon_30 : decode cX9_reckon 30 = .ok (.ireturn, 1) := by decide +kernel
theorem dX9_reckon_31 : decode cX9_reckon 31 = .ok (.iload_n 1, 1) := by decide +kernel
theorem dX9_reckon_32 : decode cX9_reckon 32 = .ok (.i2l, 1) := by decide +kernel
theorem dX9_reckon_33 : decode cX9_reckon 33 = .ok (.lconst 0, 1) := by decide +kernel
theorem dX9_reckon_34 : decode cX9_reckon 34 = .ok (.ldc2_w 143, 3) := by decide +kernel
theorem dX9_reckon_37 : decode cX9_reckon 37 = .ok (.invokestatic 115, 3) := by decide +kernel
theorem dX9_reckon_40 : decode cX9_reckon 40 = .ok (.ifCond .ne 7, 3) := by decide +kernel
theorem dX9_reckon_43 : decode cX9_reckon 43 = .ok (.sipush (-1002), 3) := by decide +kernel
theorem dX9_reckon_46 : decode cX9_reckon 46 = .ok (.ireturn, 1) := by decide +kernel
theorem dX9_reckon_47 : decode cX9_reckon 47 = .ok (.aload_n 0, 1) := by decide +kernel
theorem dX9_reckon_48 : decode cX9_reckon 48 = .ok (.iconst 0, 1) := by decide +kernel
theorem dX9_reckon_49 : decode cX9_reckon 49 = .ok (.putfield 65, 3) := by decide +kernel
theorem dX9_reckon_52 : decode cX9_reckon 52 = .ok (.aload_n 0, 1) := by decide +kernel
theorem dX9_reckon_53 : decode cX9_reckon 53 = .ok (.getfield 7, 3) := by decide +kernel
theorem dX9_reckon_56 : decode cX9_reckon 56 = .ok (.iload_n 2, 1) := by decide +kernel
theorem dX9_reckon_57 : decode cX9_reckon 57 = .ok (.iaload, 1) := by decide +kernel
theorem dX9_reckon_58 : decode cX9_reckon 58 = .ok (.aload_n 0, 1) := by decide +kernel
theorem dX9_reckon_59 : decode cX9_reckon 59 = .ok (.getfield 7, 3) := by decide +kernel
theorem dX9_reckon_62 : decode cX9_reckon 62 = .ok (.iload_n 3, 1) := by decide +kernel
theorem dX9_reckon_63 : decode cX9_reckon 63 = .ok (.iaload, 1) := by decide +kernel
theorem dX9_reckon_64 : decode cX9_reckon 64 = .ok (.if_icmp .le 12, 3) := by decide +kernel
theorem dX9_reckon_67 : decode cX9_reckon 67 = .ok (.aload_n 0, 1) := by decide +kernel
theorem dX9_reckon_68 : decode cX9_reckon 68 = .ok (.getfield 7, 3) := by decide +kernel
theorem dX9_reckon_71 : decode cX9_reckon 71 = .ok (.iload_n 2, 1) := by decide +kernel
theorem dX9_reckon_72 : decode cX9_reckon 72 = .ok (.iaload, 1) := by decide +kernel
theorem dX9_reckon_73 : decode cX9_reckon 73 = .ok (.goto 9, 3) := by decide +kernel
theorem dX9_reckon_76 : decode cX9_reckon 76 = .ok (.aload_n 0, 1) := by decide +kernel
theorem dX9_reckon_77 : decode cX9_reckon 77 = .ok (.getfield 7, 3) := by decide +kernel
theorem dX9_reckon_80 : decode cX9_reckon 80 = .ok (.iload_n 3, 1) := by decide +kernel
theorem dX9_reckon_81 : decode cX9_reckon 81 = .ok (.iaload, 1) := by decide +kernel
theorem dX9_reckon_82 : decode cX9_reckon 82 = .ok (.istore 5, 2) := by decide +kernel
theorem dX9_reckon_84 : decode cX9_reckon 84 = .ok (.aload_n 0, 1) := by decide +kernel
theorem dX9_reckon_85 : decode cX9_reckon 85 = .ok (.getfield 7, 3) := by decide +kernel
theorem dX9_reckon_88 : decode cX9_reckon 88 = .ok (.iload_n 2, 1) := by decide +kernel
theorem dX9_reckon_89 : decode cX9_reckon 89 = .ok (.iaload, 1) := by decide +kernel
theorem dX9_reckon_90 : decode cX9_reckon 90 = .ok (.aload_n 0, 1) := by decide +kernel
theorem dX9_reckon_91 : decode cX9_reckon 91 = .ok (.getfield 13, 3) := by decide +kernel
theorem dX9_reckon_94 : decode cX9_reckon 94 = .ok (.iload_n 2, 1) := by decide +kernel
theorem dX9_reckon_95 : decode cX9_reckon 95 = .ok (.laload, 1) := by decide +kernel
theorem dX9_reckon_96 : decode cX9_reckon 96 = .ok (.iload 5, 2) := by decide +kernel
theorem dX9_reckon_98 : decode cX9_reckon 98 = .ok (.invokestatic 109, 3) := by decide +kernel
theorem dX9_reckon_101 : decode cX9_reckon 101 = .ok (.lstore 6, 2) := by decide +kernel
theorem dX9_reckon_103 : decode cX9_reckon 103 = .ok (.aload_n 0, 1) := by decide +kernel
theorem dX9_reckon_104 : decode cX9_reckon 104 = .ok (.getfield 7, 3) := by decide +kernel
theorem dX9_reckon_107 : decode cX9_reckon 107 = .ok (.iload_n 3, 1) := by decide +kernel
theorem dX9_reckon_108 : decode cX9_reckon 108 = .ok (.iaload, 1) := by decide +kernel
theorem dX9_reckon_109 : decode cX9_reckon 109 = .ok (.aload_n 0, 1) := by decide +kernel
theorem dX9_reckon_110 : decode cX9_reckon 110 = .ok (.getfield 13, 3) := by decide +kernel
theorem dX9_reckon_113 : decode cX9_reckon 113 = .ok (.iload_n 3, 1) := by decide +kernel
theorem dX9_reckon_114 : decode cX9_reckon 114 = .ok (.laload, 1) := by decide +kernel
theorem dX9_reckon_115 : decode cX9_reckon 115 = .ok (.iload 5, 2) := by decide +kernel
theorem dX9_reckon_117 : decode cX9_reckon 117 = .ok (.invokestatic 109, 3) := by decide +kernel
theorem dX9_reckon_120 : decode cX9_reckon 120 = .ok (.lstore 8, 2) := by decide +kernel
theorem dX9_reckon_122 : decode cX9_reckon 122 = .ok (.iload 5, 2) := by decide +kernel
theorem dX9_reckon_124 : decode cX9_reckon 124 = .ok (.iconst 2, 1) := by decide +kernel
theorem dX9_reckon_125 : decode cX9_reckon 125 = .ok (.if_icmp .ge 37, 3) := by decide +kernel
theorem dX9_reckon_128 : decode cX9_reckon 128 = .ok (.aload_n 0, 1) := by decide +kernel
theorem dX9_reckon_129 : decode cX9_reckon 129 = .ok (.iload_n 1, 1) := by decide +kernel
theorem dX9_reckon_130 : decode cX9_reckon 130 = .ok (.lload 6, 2) := by decide +kernel
theorem dX9_reckon_132 : decode cX9_reckon 132 = .ok (.lload 8, 2) := by decide +kernel
theorem dX9_reckon_134 : decode cX9_reckon 134 = .ok (.invokevirtual 145, 3) := by decide +kernel
theorem dX9_reckon_137 : decode cX9_reckon 137 = .ok (.aload_n 0, 1) := by decide +kernel
theorem dX9_reckon_138 : decode cX9_reckon 138 = .ok (.iload 5, 2) := by decide +kernel
theorem dX9_reckon_140 : decode cX9_reckon 140 = .ok (.ifCond .ne 12, 3) := by decide +kernel
theorem dX9_reckon_143 : decode cX9_reckon 143 = .ok (.aload_n 0, 1) := by decide +kernel
theorem dX9_reckon_144 : decode cX9_reckon 144 = .ok (.getfield 131, 3) := by decide +kernel
theorem dX9_reckon_147 : decode cX9_reckon 147 = .ok (.l2i, 1) := by decide +kernel
theorem dX9_reckon_148 : decode cX9_reckon 148 = .ok (.i2l, 1) := by decide +kernel
theorem dX9_reckon_149 : decode cX9_reckon 149 = .ok (.goto 7, 3) := by decide +kernel
theorem dX9_reckon_152 : decode cX9_reckon 152 = .ok (.aload_n 0, 1) := by decide +kernel
theorem dX9_reckon_153 : decode cX9_reckon 153 = .ok (.getfield 131, 3) := by decide +kernel
theorem dX9_reckon_156 : decode cX9_reckon 156 = .ok (.putfield 131, 3) := by decide +kernel
theorem dX9_reckon_159 : decode cX9_reckon 159 = .ok (.goto 42, 3) := by decide +kernel
theorem dX9_reckon_162 : decode cX9_reckon 162 = .ok (.iload 5, 2) := by decide +kernel
theorem dX9_reckon_164 : decode cX9_reckon 164 = .ok (.iconst 2, 1) := by decide +kernel
theorem dX9_reckon_165 : decode cX9_reckon 165 = .ok (.if_icmp .ne 21, 3) := by decide +kernel
theorem dX9_reckon_168 : decode cX9_reckon 168 = .ok (.aload_n 0, 1) := by decide +kernel
theorem dX9_reckon_169 : decode cX9_reckon 169 = .ok (.iload_n 1, 1) := by decide +kernel
theorem dX9_reckon_170 : decode cX9_reckon 170 = .ok (.lload 6, 2) := by decide +kernel
theorem dX9_reckon_172 : decode cX9_reckon 172 = .ok (.invokestatic 102, 3) := by decide +kernel
theorem dX9_reckon_175 : decode cX9_reckon 175 = .ok (.lload 8, 2) := by decide +kernel
theorem dX9_reckon_177 : decode cX9_reckon 177 = .ok (.invokestatic 102, 3) := by decide +kernel
theorem dX9_reckon_180 : decode cX9_reckon 180 = .ok (.invokevirtual 149, 3) := by decide +kernel
theorem dX9_reckon_183 : decode cX9_reckon 183 = .ok (.goto 18, 3) := by decide +kernel
theorem dX9_reckon_186 : decode cX9_reckon 186 = .ok (.aload_n 0, 1) := by decide +kernel
theorem dX9_reckon_187 : decode cX9_reckon 187 = .ok (.iload_n 1, 1) := by decide +kernel
theorem dX9_reckon_188 : decode cX9_reckon 188 = .ok (.lload 6, 2) := by decide +kernel
theorem dX9_reckon_190 : decode cX9_reckon 190 = .ok (.invokestatic 106, 3) := by decide +kernel
theorem dX9_reckon_193 : decode cX9_reckon 193 = .ok (.lload 8, 2) := by decide +kernel
theorem dX9_reckon_195 : decode cX9_reckon 195 = .ok (.invokestatic 106, 3) := by decide +kernel
theorem dX9_reckon_198 : decode cX9_reckon 198 = .ok (.invokevirtual 153, 3) := by decide +kernel
theorem dX9_reckon_201 : decode cX9_reckon 201 = .ok (.aload_n 0, 1) := by decide +kernel
theorem dX9_reckon_202 : decode cX9_reckon 202 = .ok (.getfield 65, 3) := by decide +kernel
theorem dX9_reckon_205 : decode cX9_reckon 205 = .ok (.ifCond .ne 23, 3) := by decide +kernel
theorem dX9_reckon_208 : decode cX9_reckon 208 = .ok (.aload_n 0, 1) := by decide +kernel
theorem dX9_reckon_209 : decode cX9_reckon 209 = .ok (.getfield 7, 3) := by decide +kernel
theorem dX9_reckon_212 : decode cX9_reckon 212 = .ok (.iload 4, 2) := by decide +kernel
theorem dX9_reckon_214 : decode cX9_reckon 214 = .ok (.iload 5, 2) := by decide +kernel
theorem dX9_reckon_216 : decode cX9_reckon 216 = .ok (.iastore, 1) := by decide +kernel
theorem dX9_reckon_217 : decode cX9_reckon 217 = .ok (.aload_n 0, 1) := by decide +kernel
theorem dX9_reckon_218 : decode cX9_reckon 218 = .ok (.getfield 13, 3) := by decide +kernel
theorem dX9_reckon_221 : decode cX9_reckon 221 = .ok (.iload 4, 2) := by decide +kernel
theorem dX9_reckon_223 : decode cX9_reckon 223 = .ok (.aload_n 0, 1) := by decide +kernel
theorem dX9_reckon_224 : decode cX9_reckon 224 = .ok (.getfield 131, 3) := by decide +kernel
theorem dX9_reckon_227 : decode cX9_reckon 227 = .ok (.lastore, 1) := by decide +kernel
theorem dX9_reckon_228 : decode cX9_reckon 228 = .ok (.aload_n 0, 1) := by decide +kernel
theorem dX9_reckon_229 : decode cX9_reckon 229 = .ok (.iload 5, 2) := by decide +kernel
theorem dX9_reckon_231 : decode cX9_reckon 231 = .ok (.invokevirtual 157, 3) := by decide +kernel
theorem dX9_reckon_234 : decode cX9_reckon 234 = .ok (.ireturn, 1) := by decide +kernel
set_option maxRecDepth 20000 in
theorem ggX9_compare_X9_isMeter : GoodIn wsX9_compare wsX9_isMeter := goodIn_r _ [7, 8, 9, 10, 6, 11] (by decide +kernel) (by decide +kernel)
set_option maxRecDepth 20000 in
theorem gX9_compare_X9_isMeter : GoodIn wsX9_compare (va_wsS RX9 119 yX9_isMeter wsX9_isMeter) := goodIn_app (goodIn_of _ (by decide +kernel)) ggX9_compare_X9_isMeter
set_option maxRecDepth 20000 in
theorem ggX9_compare_X9_turned : GoodIn wsX9_compare wsX9_turned := goodIn_r _ [14, 15, 16, 17, 18, 19, 20, 21, 22, 23, 24, 25, 26, 27, 28, 29, 30, 31, 32, 33, 34, 35, 36, 37, 38, 39, 40, 6, 41, 42, 43, 44, 45, 46, 47, 48, 49, 50] (by decide +kernel) (by decide +kernel)
set_option maxRecDepth 20000 in
theorem gX9_compare_X9_turned : GoodIn wsX9_compare (va_wsS RX9 109 yX9_turned wsX9_turned) := goodIn_app (goodIn_of _ (by decide +kernel)) ggX9_compare_X9_turned
set_option maxRecDepth 20000 in
theorem ggX9_compare_X9_doubleOf : GoodIn wsX9_compare wsX9_doubleOf := goodIn_r _ [47, 48, 49, 50, 34] (by decide +kernel) (by decide +kernel)
set_option maxRecDepth 20000 in
theorem gX9_compare_X9_doubleOf : GoodIn wsX9_compare (va_wsS RX9 106 yX9_doubleOf wsX9_doubleOf) := goodIn_app (goodIn_of _ (by decide +kernel)) ggX9_compare_X9_doubleOf
theorem dX9_compare_0 : decode cX9_compare 0 = .ok (.aload_n 0, 1) := by decide +kernel
theorem dX9_compare_1 : decode cX9_compare 1 = .ok (.iconst 0, 1) := by decide +kernel
theorem dX9_compare_2 : decode cX9_compare 2 = .ok (.putfield 61, 3) := by decide +kernel
theorem dX9_compare_5 : decode cX9_compare 5 = .ok (.iload_n 1, 1) := by decide +kernel
theorem dX9_compare_6 : decode cX9_compare 6 = .ok (.invokestatic 119, 3) := by decide +kernel
theorem dX9_compare_9 : decode cX9_compare 9 = .ok (.ifCond .eq 10, 3) := by decide +kernel
theorem dX9_compare_12 : decode cX9_compare 12 = .ok (.iload_n 2, 1) := by decide +kernel
theorem dX9_compare_13 : decode cX9_compare 13 = .ok (.invokestatic 119, 3) := by decide +kernel
theorem dX9_compare_16 : decode cX9_compare 16 = .ok (.ifCond .ne 7, 3) := by decide +kernel
theorem dX9_compare_19 : decode cX9_compare 19 = .ok (.sipush (-1001), 3) := by decide +kernel
theorem dX9_compare_22 : decode cX9_compare 22 = .ok (.ireturn, 1) := by decide +kernel
theorem dX9_compare_23 : decode cX9_compare 23 = .ok (.aload_n 0, 1) := by decide +kernel
theorem dX9_compare_24 : decode cX9_compare 24 = .ok (.getfield 7, 3) := by decide +kernel
theorem dX9_compare_27 : decode cX9_compare 27 = .ok (.iload_n 1, 1) := by decide +kernel
theorem dX9_compare_28 : decode cX9_compare 28 = .ok (.iaload, 1) := by decide +kernel
theorem dX9_compare_29 : decode cX9_compare 29 = .ok (.aload_n 0, 1) := by decide +kernel
theorem dX9_compare_30 : decode cX9_compare 30 = .ok (.getfield 7, 3) := by decide +kernel
theorem dX9_compare_33 : decode cX9_compare 33 = .ok (.iload_n 2, 1) := by decide +kernel
theorem dX9_compare_34 : decode cX9_compare 34 = .ok (.iaload, 1) := by decide +kernel
theorem dX9_compare_35 : decode cX9_compare 35 = .ok (.if_icmp .le 12, 3) := by decide +kernel
theorem dX9_compare_38 : decode cX9_compare 38 = .ok (.aload_n 0, 1) := by decide +kernel
theorem dX9_compare_39 : decode cX9_compare 39 = .ok (.getfield 7, 3) := by decide +kernel
theorem dX9_compare_42 : decode cX9_compare 42 = .ok (.iload_n 1, 1) := by decide +kernel
theorem dX9_compare_43 : decode cX9_compare 43 = .ok (.iaload, 1) := by decide +kernel
theorem dX9_compare_44 : decode cX9_compare 44 = .ok (.goto 9, 3) := by decide +kernel
theorem dX9_compare_47 : decode cX9_compare 47 = .ok (.aload_n 0, 1) := by decide +kernel
theorem dX9_compare_48 : decode cX9_compare 48 = .ok (.getfield 7, 3) := by decide +kernel
theorem dX9_compare_51 : decode cX9_compare 51 = .ok (.iload_n 2, 1) := by decide +kernel
theorem dX9_compare_52 : decode cX9_compare 52 = .ok (.iaload, 1) := by decide +kernel
theorem dX9_compare_53 : decode cX9_compare 53 = .ok (.istore_n 3, 1) := by decide +kernel
theorem dX9_compare_54 : decode cX9_compare 54 = .ok (.aload_n 0, 1) := by decide +kernel
theorem dX9_compare_55 : decode cX9_compare 55 = .ok (.getfield 7, 3) := by decide +kernel
theorem dX9_compare_58 : decode cX9_compare 58 = .ok (.iload_n 1, 1) := by decide +kernel
theorem dX9_compare_59 : decode cX9_compare 59 = .ok (.iaload, 1) := by decide +kernel
theorem dX9_compare_60 : decode cX9_compare 60 = .ok (.aload_n 0, 1) := by decide +kernel
theorem dX9_compare_61 : decode cX9_compare 61 = .ok (.getfield 13, 3) := by decide +kernel
theorem dX9_compare_64 : decode cX9_compare 64 = .ok (.iload_n 1, 1) := by decide +kernel
theorem dX9_compare_65 : decode cX9_compare 65 = .ok (.laload, 1) := by decide +kernel
theorem dX9_compare_66 : decode cX9_compare 66 = .ok (.iload_n 3, 1) := by decide +kernel
theorem dX9_compare_67 : decode cX9_compare 67 = .ok (.invokestatic 109, 3) := by decide +kernel
theorem dX9_compare_70 : decode cX9_compare 70 = .ok (.lstore 4, 2) := by decide +kernel
theorem dX9_compare_72 : decode cX9_compare 72 = .ok (.aload_n 0, 1) := by decide +kernel
theorem dX9_compare_73 : decode cX9_compare 73 = .ok (.getfield 7, 3) := by decide +kernel
theorem dX9_compare_76 : decode cX9_compare 76 = .ok (.iload_n 2, 1) := by decide +kernel
theorem dX9_compare_77 : decode cX9_compare 77 = .ok (.iaload, 1) := by decide +kernel
theorem dX9_compare_78 : decode cX9_compare 78 = .ok (.aload_n 0, 1) := by decide +kernel
theorem dX9_compare_79 : decode cX9_compare 79 = .ok (.getfield 13, 3) := by decide +kernel
theorem dX9_compare_82 : decode cX9_compare 82 = .ok (.iload_n 2, 1) := by decide +kernel
theorem dX9_compare_83 : decode cX9_compare 83 = .ok (.laload, 1) := by decide +kernel
theorem dX9_compare_84 : decode cX9_compare 84 = .ok (.iload_n 3, 1) := by decide +kernel
theorem dX9_compare_85 : decode cX9_compare 85 = .ok (.invokestatic 109, 3) := by decide +kernel
theorem dX9_compare_88 : decode cX9_compare 88 = .ok (.lstore 6, 2) := by decide +kernel
theorem dX9_compare_90 : decode cX9_compare 90 = .ok (.iload_n 3, 1) := by decide +kernel
theorem dX9_compare_91 : decode cX9_compare 91 = .ok (.iconst 2, 1) := by decide +kernel
theorem dX9_compare_92 : decode cX9_compare 92 = .ok (.if_icmp .ge 29, 3) := by decide +kernel
theorem dX9_compare_95 : decode cX9_compare 95 = .ok (.lload 4, 2) := by decide +kernel
theorem dX9_compare_97 : decode cX9_compare 97 = .ok (.lload 6, 2) := by decide +kernel
theorem dX9_compare_99 : decode cX9_compare 99 = .ok (.lcmp, 1) := by decide +kernel
theorem dX9_compare_100 : decode cX9_compare 100 = .ok (.ifCond .ge 7, 3) := by decide +kernel
theorem dX9_compare_103 : decode cX9_compare 103 = .ok (.iconst (-1), 1) := by decide +kernel
theorem dX9_compare_104 : decode cX9_compare 104 = .ok (.goto 16, 3) := by decide +kernel
theorem dX9_compare_107 : decode cX9_compare 107 = .ok (.lload 4, 2) := by decide +kernel
theorem dX9_compare_109 : decode cX9_compare 109 = .ok (.lload 6, 2) := by decide +kernel
theorem dX9_compare_111 : decode cX9_compare 111 = .ok (.lcmp, 1) := by decide +kernel
theorem dX9_compare_112 : decode cX9_compare 112 = .ok (.ifCond .le 7, 3) := by decide +kernel
theorem dX9_compare_115 : decode cX9_compare 115 = .ok (.iconst 1, 1) := by decide +kernel
theorem dX9_compare_116 : decode cX9_compare 116 = .ok (.goto 4, 3) := by decide +kernel
theorem dX9_compare_119 : decode cX9_compare 119 = .ok (.iconst 0, 1) := by decide +kernel
theorem dX9_compare_120 : decode cX9_compare 120 = .ok (.ireturn, 1) := by decide +kernel
theorem dX9_compare_121 : decode cX9_compare 121 = .ok (.iload_n 3, 1) := by decide +kernel
theorem dX9_compare_122 : decode cX9_compare 122 = .ok (.lload 4, 2) := by decide +kernel
theorem dX9_compare_124 : decode cX9_compare 124 = .ok (.iconst 3, 1) := by decide +kernel
theorem dX9_compare_125 : decode cX9_compare 125 = .ok (.invokestatic 109, 3) := by decide +kernel
theorem dX9_compare_128 : decode cX9_compare 128 = .ok (.invokestatic 106, 3) := by decide +kernel
theorem dX9_compare_131 : decode cX9_compare 131 = .ok (.dstore 8, 2) := by decide +kernel
theorem dX9_compare_133 : decode cX9_compare 133 = .ok (.iload_n 3, 1) := by decide +kernel
theorem dX9_compare_134 : decode cX9_compare 134 = .ok (.lload 6, 2) := by decide +kernel
theorem dX9_compare_136 : decode cX9_compare 136 = .ok (.iconst 3, 1) := by decide +kernel
theorem dX9_compare_137 : decode cX9_compare 137 = .ok (.invokestatic 109, 3) := by decide +kernel
theorem dX9_compare_140 : decode cX9_compare 140 = .ok (.invokestatic 106, 3) := by decide +kernel
theorem dX9_compare_143 : decode cX9_compare 143 = .ok (.dstore 10, 2) := by decide +kernel
theorem dX9_compare_145 : decode cX9_compare 145 = .ok (.dload 8, 2) := by decide +kernel
theorem dX9_compare_147 : decode cX9_compare 147 = .ok (.dload 10, 2) := by decide +kernel
theorem dX9_compare_149 : decode cX9_compare 149 = .ok (.dcmp .g, 1) := by decide +kernel
theorem dX9_compare_150 : decode cX9_compare 150 = .ok (.ifCond .ge 7, 3) := by decide +kernel
theorem dX9_compare_153 : decode cX9_compare 153 = .ok (.iconst (-1), 1) := by decide +kernel
theorem dX9_compare_154 : decode cX9_compare 154 = .ok (.goto 16, 3) := by decide +kernel
theorem dX9_compare_157 : decode cX9_compare 157 = .ok (.dload 8, 2) := by decide +kernel
theorem dX9_compare_159 : decode cX9_compare 159 = .ok (.dload 10, 2) := by decide +kernel
theorem dX9_compare_161 : decode cX9_compare 161 = .ok (.dcmp .l, 1) := by decide +kernel
theorem dX9_compare_162 : decode cX9_compare 162 = .ok (.ifCond .le 7, 3) := by decide +kernel
theorem dX9_compare_165 : decode cX9_compare 165 = .ok (.iconst 1, 1) := by decide +kernel
theorem dX9_compare_166 : decode cX9_compare 166 = .ok (.goto 4, 3) := by decide +kernel
theorem dX9_compare_169 : decode cX9_compare 169 = .ok (.iconst 0, 1) := by decide +kernel
theorem dX9_compare_170 : decode cX9_compare 170 = .ok (.ireturn, 1) := by decide +kernel
set_option maxRecDepth 20000 in
theorem ggX9_isDrum_X9_in : GoodIn wsX9_isDrum wsX9_in := goodIn_r _ [5] (by decide +kernel) (by decide +kernel)
set_option maxRecDepth 20000 in
theorem gX9_isDrum_X9_in : GoodIn wsX9_isDrum (va_wsS RX9 115 yX9_in wsX9_in) := goodIn_app (goodIn_of _ (by decide +kernel)) ggX9_isDrum_X9_in
theorem dX9_isDrum_0 : decode cX9_isDrum 0 = .ok (.iload_n 0, 1) := by decide +kernel
theorem dX9_isDrum_1 : decode cX9_isDrum 1 = .ok (.i2l, 1) := by decide +kernel
theorem dX9_isDrum_2 : decode cX9_isDrum 2 = .ok (.lconst 0, 1) := by decide +kernel
theorem dX9_isDrum_3 : decode cX9_isDrum 3 = .ok (.ldc2_w 161, 3) := by decide +kernel
theorem dX9_isDrum_6 : decode cX9_isDrum 6 = .ok (.invokestatic 115, 3) := by decide +kernel
theorem dX9_isDrum_9 : decode cX9_isDrum 9 = .ok (.ireturn, 1) := by decide +kernel
set_option maxRecDepth 20000 in
theorem ggX9_drum_X9_isDrum : GoodIn wsX9_drum wsX9_isDrum := goodIn_r _ [11, 12, 13, 14, 10, 15] (by decide +kernel) (by decide +kernel)
set_option maxRecDepth 20000 in
theorem gX9_drum_X9_isDrum : GoodIn wsX9_drum (va_wsS RX9 163 yX9_isDrum wsX9_isDrum) := goodIn_app (goodIn_of _ (by decide +kernel)) ggX9_drum_X9_isDrum
set_option maxRecDepth 20000 in
theorem ggX9_drum_X9_isNumber : GoodIn wsX9_drum wsX9_isNumber := goodIn_r _ [18, 19, 20, 21, 22] (by decide +kernel) (by decide +kernel)
set_option maxRecDepth 20000 in
theorem gX9_drum_X9_isNumber : GoodIn wsX9_drum (va_wsS RX9 125 yX9_isNumber wsX9_isNumber) := goodIn_app (goodIn_of _ (by decide +kernel)) ggX9_drum_X9_isNumber
set_option maxRecDepth 20000 in
theorem ggX9_drum_X9_doubleOf : GoodIn wsX9_drum wsX9_doubleOf := goodIn_r _ [25, 26, 27, 28, 29] (by decide +kernel) (by decide +kernel)
set_option maxRecDepth 20000 in
theorem gX9_drum_X9_doubleOf : GoodIn wsX9_drum (va_wsS RX9 106 yX9_doubleOf wsX9_doubleOf) := goodIn_app (goodIn_of _ (by decide +kernel)) ggX9_drum_X9_doubleOf
theorem dX9_drum_0 : decode cX9_drum 0 = .ok (.aload_n 0, 1) := by decide +kernel
theorem dX9_drum_1 : decode cX9_drum 1 = .ok (.iconst 0, 1) := by decide +kernel
theorem dX9_drum_2 : decode cX9_drum 2 = .ok (.putfield 61, 3) := by decide +kernel
theorem dX9_drum_5 : decode cX9_drum 5 = .ok (.iload_n 1, 1) := by decide +kernel
theorem dX9_drum_6 : decode cX9_drum 6 = .ok (.invokestatic 163, 3) := by decide +kernel
theorem dX9_drum_9 : decode cX9_drum 9 = .ok (.ifCond .ne 7, 3) := by decide +kernel
theorem dX9_drum_12 : decode cX9_drum 12 = .ok (.sipush (-1001), 3) := by decide +kernel
theorem dX9_drum_15 : decode cX9_drum 15 = .ok (.ireturn, 1) := by decide +kernel
theorem dX9_drum_16 : decode cX9_drum 16 = .ok (.iconst 3, 1) := by decide +kernel
theorem dX9_drum_17 : decode cX9_drum 17 = .ok (.lload_n 2, 1) := by decide +kernel
theorem dX9_drum_18 : decode cX9_drum 18 = .ok (.invokestatic 125, 3) := by decide +kernel
theorem dX9_drum_21 : decode cX9_drum 21 = .ok (.ifCond .eq 25, 3) := by decide +kernel
theorem dX9_drum_24 : decode cX9_drum 24 = .ok (.lload_n 2, 1) := by decide +kernel
theorem dX9_drum_25 : decode cX9_drum 25 = .ok (.invokestatic 106, 3) := by decide +kernel
theorem dX9_drum_28 : decode cX9_drum 28 = .ok (.ldc2_w 166, 3) := by decide +kernel
theorem dX9_drum_31 : decode cX9_drum 31 = .ok (.dcmp .g, 1) := by decide +kernel
theorem dX9_drum_32 : decode cX9_drum 32 = .ok (.ifCond .lt 14, 3) := by decide +kernel
theorem dX9_drum_35 : decode cX9_drum 35 = .ok (.lload_n 2, 1) := by decide +kernel
theorem dX9_drum_36 : decode cX9_drum 36 = .ok (.invokestatic 106, 3) := by decide +kernel
theorem dX9_drum_39 : decode cX9_drum 39 = .ok (.ldc2_w 168, 3) := by decide +kernel
theorem dX9_drum_42 : decode cX9_drum 42 = .ok (.dcmp .l, 1) := by decide +kernel
theorem dX9_drum_43 : decode cX9_drum 43 = .ok (.ifCond .le 7, 3) := by decide +kernel
theorem dX9_drum_46 : decode cX9_drum 46 = .ok (.sipush (-1002), 3) := by decide +kernel
theorem dX9_drum_49 : decode cX9_drum 49 = .ok (.ireturn, 1) := by decide +kernel
theorem dX9_drum_50 : decode cX9_drum 50 = .ok (.aload_n 0, 1) := by decide +kernel
theorem dX9_drum_51 : decode cX9_drum 51 = .ok (.getfield 17, 3) := by decide +kernel
theorem dX9_drum_54 : decode cX9_drum 54 = .ok (.iload_n 1, 1) := by decide +kernel
theorem dX9_drum_55 : decode cX9_drum 55 = .ok (.lload_n 2, 1) := by decide +kernel
theorem dX9_drum_56 : decode cX9_drum 56 = .ok (.invokestatic 106, 3) := by decide +kernel
theorem dX9_drum_59 : decode cX9_drum 59 = .ok (.dastore, 1) := by decide +kernel
theorem dX9_drum_60 : decode cX9_drum 60 = .ok (.aload_n 0, 1) := by decide +kernel
theorem dX9_drum_61 : decode cX9_drum 61 = .ok (.getfield 21, 3) := by decide +kernel
theorem dX9_drum_64 : decode cX9_drum 64 = .ok (.iload_n 1, 1) := by decide +kernel
theorem dX9_drum_65 : decode cX9_drum 65 = .ok (.dconst 0, 1) := by decide +kernel
theorem dX9_drum_66 : decode cX9_drum 66 = .ok (.dastore, 1) := by decide +kernel
theorem dX9_drum_67 : decode cX9_drum 67 = .ok (.aload_n 0, 1) := by decide +kernel
theorem dX9_drum_68 : decode cX9_drum 68 = .ok (.getfield 24, 3) := by decide +kernel
theorem dX9_drum_71 : decode cX9_drum 71 = .ok (.iload_n 1, 1) := by decide +kernel
theorem dX9_drum_72 : decode cX9_drum 72 = .ok (.dconst 0, 1) := by decide +kernel
theorem dX9_drum_73 : decode cX9_drum 73 = .ok (.dastore, 1) := by decide +kernel
theorem dX9_drum_74 : decode cX9_drum 74 = .ok (.aload_n 0, 1) := by decide +kernel
theorem dX9_drum_75 : decode cX9_drum 75 = .ok (.getfield 27, 3) := by decide +kernel
theorem dX9_drum_78 : decode cX9_drum 78 = .ok (.iload_n 1, 1) := by decide +kernel
theorem dX9_drum_79 : decode cX9_drum 79 = .ok (.lconst 0, 1) := by decide +kernel
theorem dX9_drum_80 : decode cX9_drum 80 = .ok (.lastore, 1) := by decide +kernel
theorem dX9_drum_81 : decode cX9_drum 81 = .ok (.iconst 1, 1) := by decide +kernel
theorem dX9_drum_82 : decode cX9_drum 82 = .ok (.ireturn, 1) := by decide +kernel
set_option maxRecDepth 20000 in
theorem ggX9_wind_X9_isDrum : GoodIn wsX9_wind wsX9_isDrum := goodIn_r _ [10, 11, 12, 13, 9, 14] (by decide +kernel) (by decide +kernel)
set_option maxRecDepth 20000 in
theorem gX9_wind_X9_isDrum : GoodIn wsX9_wind (va_wsS RX9 163 yX9_isDrum wsX9_isDrum) := goodIn_app (goodIn_of _ (by decide +kernel)) ggX9_wind_X9_isDrum
set_option maxRecDepth 20000 in
theorem ggX9_wind_X9_isMeter : GoodIn wsX9_wind wsX9_isMeter := goodIn_r _ [17, 18, 12, 13, 9, 14] (by decide +kernel) (by decide +kernel)
set_option maxRecDepth 20000 in
theorem gX9_wind_X9_isMeter : GoodIn wsX9_wind (va_wsS RX9 119 yX9_isMeter wsX9_isMeter) := goodIn_app (goodIn_of _ (by decide +kernel)) ggX9_wind_X9_isMeter
set_option maxRecDepth 20000 in
theorem ggX9_wind_X9_asDouble : GoodIn wsX9_wind wsX9_asDouble := goodIn_r _ [22, 23, 24, 25, 26, 9, 27, 28, 29, 30, 31, 32, 33, 34, 35, 36, 37, 38, 39, 40, 41, 42, 43, 44, 45, 46, 47, 48, 49, 50, 51, 52, 53, 54, 55, 56, 57, 58, 59, 60, 61, 62, 63, 74, 75, 76, 77, 78, 79, 80, 81, 82, 83, 84, 85, 86, 87, 88, 89, 90, 91, 92, 93] (by decide +kernel) (by decide +kernel)
set_option maxRecDepth 20000 in
theorem gX9_wind_X9_asDouble : GoodIn wsX9_wind (wsV RX9 170 RX9 yX9_asDouble wsX9_asDouble) := goodIn_app (goodIn_of _ (by decide +kernel)) ggX9_wind_X9_asDouble
set_option maxRecDepth 20000 in
theorem ggX9_wind_X9_isEndless : GoodIn wsX9_wind wsX9_isEndless := goodIn_r _ [66, 67, 68] (by decide +kernel) (by decide +kernel)
set_option maxRecDepth 20000 in
theorem gX9_wind_X9_isEndless : GoodIn wsX9_wind (va_wsS RX9 139 yX9_isEndless wsX9_isEndless) := goodIn_app (goodIn_of _ (by decide +kernel)) ggX9_wind_X9_isEndless
set_option maxRecDepth 20000 in
theorem ggX9_wind_X9_answers : GoodIn wsX9_wind wsX9_answers := goodIn_r _ [72, 2, 73, 74, 75, 76, 77, 78, 79, 80, 81, 82, 83, 84, 85, 86, 87, 88, 89, 90, 91, 92, 93] (by decide +kernel) (by decide +kernel)
set_option maxRecDepth 20000 in
theorem gX9_wind_X9_answers : GoodIn wsX9_wind (wsV RX9 157 RX9 yX9_answers wsX9_answers) := goodIn_app (goodIn_of _ (by decide +kernel)) ggX9_wind_X9_answers
theorem dX9_wind_0 : decode cX9_wind 0 = .ok (.aload_n 0, 1) := by decide +kernel
theorem dX9_wind_1 : decode cX9_wind 1 = .ok (.iconst 0, 1) := by decide +kernel
theorem dX9_wind_2 : decode cX9_wind 2 = .ok (.putfield 61, 3) := by decide +kernel
theorem dX9_wind_5 : decode cX9_wind 5 = .ok (.iload_n 1, 1) := by decide +kernel
theorem dX9_wind_6 : decode cX9_wind 6 = .ok (.invokestatic 163, 3) := by decide +kernel
theorem dX9_wind_9 : decode cX9_wind 9 = .ok (.ifCond .eq 10, 3) := by decide +kernel
theorem dX9_wind_12 : decode cX9_wind 12 = .ok (.iload_n 2, 1) := by decide +kernel
theorem dX9_wind_13 : decode cX9_wind 13 = .ok (.invokestatic 119, 3) := by decide +kernel
theorem dX9_wind_16 : decode cX9_wind 16 = .ok (.ifCond .ne 7, 3) := by decide +kernel
theorem dX9_wind_19 : decode cX9_wind 19 = .ok (.sipush (-1001), 3) := by decide +kernel
theorem dX9_wind_22 : decode cX9_wind 22 = .ok (.ireturn, 1) := by decide +kernel
theorem dX9_wind_23 : decode cX9_wind 23 = .ok (.aload_n 0, 1) := by decide +kernel
theorem dX9_wind_24 : decode cX9_wind 24 = .ok (.iload_n 2, 1) := by decide +kernel
theorem dX9_wind_25 : decode cX9_wind 25 = .ok (.invokevirtual 170, 3) := by decide +kernel
theorem dX9_wind_28 : decode cX9_wind 28 = .ok (.dstore_n 3, 1) := by decide +kernel
theorem dX9_wind_29 : decode cX9_wind 29 = .ok (.aload_n 0, 1) := by decide +kernel
theorem dX9_wind_30 : decode cX9_wind 30 = .ok (.dload_n 3, 1) := by decide +kernel
theorem dX9_wind_31 : decode cX9_wind 31 = .ok (.invokestatic 139, 3) := by decide +kernel
theorem dX9_wind_34 : decode cX9_wind 34 = .ok (.ifCond .eq 7, 3) := by decide +kernel
theorem dX9_wind_37 : decode cX9_wind 37 = .ok (.iconst 5, 1) := by decide +kernel
theorem dX9_wind_38 : decode cX9_wind 38 = .ok (.goto 4, 3) := by decide +kernel
theorem dX9_wind_41 : decode cX9_wind 41 = .ok (.iconst 0, 1) := by decide +kernel
theorem dX9_wind_42 : decode cX9_wind 42 = .ok (.putfield 65, 3) := by decide +kernel
theorem dX9_wind_45 : decode cX9_wind 45 = .ok (.aload_n 0, 1) := by decide +kernel
theorem dX9_wind_46 : decode cX9_wind 46 = .ok (.getfield 65, 3) := by decide +kernel
theorem dX9_wind_49 : decode cX9_wind 49 = .ok (.ifCond .ne 61, 3) := by decide +kernel
theorem dX9_wind_52 : decode cX9_wind 52 = .ok (.aload_n 0, 1) := by decide +kernel
theorem dX9_wind_53 : decode cX9_wind 53 = .ok (.getfield 21, 3) := by decide +kernel
theorem dX9_wind_56 : decode cX9_wind 56 = .ok (.iload_n 1, 1) := by decide +kernel
theorem dX9_wind_57 : decode cX9_wind 57 = .ok (.daload, 1) := by decide +kernel
theorem dX9_wind_58 : decode cX9_wind 58 = .ok (.dload_n 3, 1) := by decide +kernel
theorem dX9_wind_59 : decode cX9_wind 59 = .ok (.dadd, 1) := by decide +kernel
theorem dX9_wind_60 : decode cX9_wind 60 = .ok (.dstore 5, 2) := by decide +kernel
theorem dX9_wind_62 : decode cX9_wind 62 = .ok (.aload_n 0, 1) := by decide +kernel
theorem dX9_wind_63 : decode cX9_wind 63 = .ok (.getfield 27, 3) := by decide +kernel
theorem dX9_wind_66 : decode cX9_wind 66 = .ok (.iload_n 1, 1) := by decide +kernel
theorem dX9_wind_67 : decode cX9_wind 67 = .ok (.dup2, 1) := by decide +kernel
theorem dX9_wind_68 : decode cX9_wind 68 = .ok (.laload, 1) := by decide +kernel
theorem dX9_wind_69 : decode cX9_wind 69 = .ok (.dload 5, 2) := by decide +kernel
theorem dX9_wind_71 : decode cX9_wind 71 = .ok (.aload_n 0, 1) := by decide +kernel
theorem dX9_wind_72 : decode cX9_wind 72 = .ok (.getfield 17, 3) := by decide +kernel
theorem dX9_wind_75 : decode cX9_wind 75 = .ok (.iload_n 1, 1) := by decide +kernel
theorem dX9_wind_76 : decode cX9_wind 76 = .ok (.daload, 1) := by decide +kernel
theorem dX9_wind_77 : decode cX9_wind 77 = .ok (.ddiv, 1) := by decide +kernel
theorem dX9_wind_78 : decode cX9_wind 78 = .ok (.d2l, 1) := by decide +kernel
theorem dX9_wind_79 : decode cX9_wind 79 = .ok (.ladd, 1) := by decide +kernel
theorem dX9_wind_80 : decode cX9_wind 80 = .ok (.lastore, 1) := by decide +kernel
theorem dX9_wind_81 : decode cX9_wind 81 = .ok (.aload_n 0, 1) := by decide +kernel
theorem dX9_wind_82 : decode cX9_wind 82 = .ok (.getfield 21, 3) := by decide +kernel
theorem dX9_wind_85 : decode cX9_wind 85 = .ok (.iload_n 1, 1) := by decide +kernel
theorem dX9_wind_86 : decode cX9_wind 86 = .ok (.dload 5, 2) := by decide +kernel
theorem dX9_wind_88 : decode cX9_wind 88 = .ok (.aload_n 0, 1) := by decide +kernel
theorem dX9_wind_89 : decode cX9_wind 89 = .ok (.getfield 17, 3) := by decide +kernel
theorem dX9_wind_92 : decode cX9_wind 92 = .ok (.iload_n 1, 1) := by decide +kernel
theorem dX9_wind_93 : decode cX9_wind 93 = .ok (.daload, 1) := by decide +kernel
theorem dX9_wind_94 : decode cX9_wind 94 = .ok (.drem, 1) := by decide +kernel
theorem dX9_wind_95 : decode cX9_wind 95 = .ok (.dastore, 1) := by decide +kernel
theorem dX9_wind_96 : decode cX9_wind 96 = .ok (.aload_n 0, 1) := by decide +kernel
theorem dX9_wind_97 : decode cX9_wind 97 = .ok (.getfield 24, 3) := by decide +kernel
theorem dX9_wind_100 : decode cX9_wind 100 = .ok (.iload_n 1, 1) := by decide +kernel
theorem dX9_wind_101 : decode cX9_wind 101 = .ok (.aload_n 0, 1) := by decide +kernel
theorem dX9_wind_102 : decode cX9_wind 102 = .ok (.getfield 24, 3) := by decide +kernel
theorem dX9_wind_105 : decode cX9_wind 105 = .ok (.iload_n 1, 1) := by decide +kernel
theorem dX9_wind_106 : decode cX9_wind 106 = .ok (.daload, 1) := by decide +kernel
theorem dX9_wind_107 : decode cX9_wind 107 = .ok (.dload_n 3, 1) := by decide +kernel
theorem dX9_wind_108 : decode cX9_wind 108 = .ok (.dadd, 1) := by decide +kernel
theorem dX9_wind_109 : decode cX9_wind 109 = .ok (.dastore, 1) := by decide +kernel
theorem dX9_wind_110 : decode cX9_wind 110 = .ok (.aload_n 0, 1) := by decide +kernel
theorem dX9_wind_111 : decode cX9_wind 111 = .ok (.iconst 1, 1) := by decide +kernel
theorem dX9_wind_112 : decode cX9_wind 112 = .ok (.invokevirtual 157, 3) := by decide +kernel
theorem dX9_wind_115 : decode cX9_wind 115 = .ok (.ireturn, 1) := by decide +kernel
set_option maxRecDepth 20000 in
theorem ggX9_told_X9_isDrum : GoodIn wsX9_told wsX9_isDrum := goodIn_r _ [11, 12, 13, 14, 10, 15] (by decide +kernel) (by decide +kernel)
set_option maxRecDepth 20000 in
theorem gX9_told_X9_isDrum : GoodIn wsX9_told (va_wsS RX9 163 yX9_isDrum wsX9_isDrum) := goodIn_app (goodIn_of _ (by decide +kernel)) ggX9_told_X9_isDrum
set_option maxRecDepth 20000 in
theorem ggX9_told_Jxe99ae_doubleToLongBits_ccdee : GoodIn wsX9_told wsJxe99ae_doubleToLongBits_ccdee := goodIn_r _ [19, 20, 21, 22, 23, 24, 25, 26, 18, 27] (by decide +kernel) (by decide +kernel)
set_option maxRecDepth 20000 in
theorem gX9_told_Jxe99ae_doubleToLongBits_ccdee : GoodIn wsX9_told (va_wsS RX9 98 yJxe99ae_doubleToLongBits_ccdee wsJxe99ae_doubleToLongBits_ccdee) := goodIn_app (goodIn_of _ (by decide +kernel)) ggX9_told_Jxe99ae_doubleToLongBits_ccdee
theorem dX9_told_0 : decode cX9_told 0 = .ok (.aload_n 0, 1) := by decide +kernel
theorem dX9_told_1 : decode cX9_told 1 = .ok (.iconst 0, 1) := by decide +kernel
theorem dX9_told_2 : decode cX9_told 2 = .ok (.putfield 61, 3) := by decide +kernel
theorem dX9_told_5 : decode cX9_told 5 = .ok (.iload_n 1, 1) := by decide +kernel
theorem dX9_told_6 : decode cX9_told 6 = .ok (.invokestatic 163, 3) := by decide +kernel
theorem dX9_told_9 : decode cX9_told 9 = .ok (.ifCond .ne 7, 3) := by decide +kernel
theorem dX9_told_12 : decode cX9_told 12 = .ok (.ldc2_w 129, 3) := by decide +kernel
theorem dX9_told_15 : decode cX9_told 15 = .ok (.lreturn, 1) := by decide +kernel
theorem dX9_told_16 : decode cX9_told 16 = .ok (.iload_n 2, 1) := by decide +kernel
theorem dX9_told_17 : decode cX9_told 17 = .ok (.tableswitch 68 0 3 #[31, 41, 51, 61], 31) := by decide +kernel
theorem dX9_told_48 : decode cX9_told 48 = .ok (.aload_n 0, 1) := by decide +kernel
theorem dX9_told_49 : decode cX9_told 49 = .ok (.getfield 17, 3) := by decide +kernel
theorem dX9_told_52 : decode cX9_told 52 = .ok (.iload_n 1, 1) := by decide +kernel
theorem dX9_told_53 : decode cX9_told 53 = .ok (.daload, 1) := by decide +kernel
theorem dX9_told_54 : decode cX9_told 54 = .ok (.invokestatic 98, 3) := by decide +kernel
theorem dX9_told_57 : decode cX9_told 57 = .ok (.lreturn, 1) := by decide +kernel
theorem dX9_told_58 : decode cX9_told 58 = .ok (.aload_n 0, 1) := by decide +kernel
theorem dX9_told_59 : decode cX9_told 59 = .ok (.getfield 21, 3) := by decide +kernel
theorem dX9_told_62 : decode cX9_told 62 = .ok (.iload_n 1, 1) := by decide +kernel
theorem dX9_told_63 : decode cX9_told 63 = .ok (.daload, 1) := by decide +kernel
theorem dX9_told_64 : decode cX9_told 64 = .ok (.invokestatic 98, 3) := by decide +kernel
theorem dX9_told_67 : decode cX9_told 67 = .ok (.lreturn, 1) := by decide +kernel
theorem dX9_told_68 : decode cX9_told 68 = .ok (.aload_n 0, 1) := by decide +kernel
theorem dX9_told_69 : decode cX9_told 69 = .ok (.getfield 24, 3) := by decide +kernel
theorem dX9_told_72 : decode cX9_told 72 = .ok (.iload_n 1, 1) := by decide +kernel
theorem dX9_told_73 : decode cX9_told 73 = .ok (.daload, 1) := by decide +kernel
theorem dX9_told_74 : decode cX9_told 74 = .ok (.invokestatic 98, 3) := by decide +kernel
theorem dX9_told_77 : decode cX9_told 77 = .ok (.lreturn, 1) := by decide +kernel
theorem dX9_told_78 : decode cX9_told 78 = .ok (.aload_n 0, 1) := by decide +kernel
theorem dX9_told_79 : decode cX9_told 79 = .ok (.getfield 27, 3) := by decide +kernel
theorem dX9_told_82 : decode cX9_told 82 = .ok (.iload_n 1, 1) := by decide +kernel
theorem dX9_told_83 : decode cX9_told 83 = .ok (.laload, 1) := by decide +kernel
theorem dX9_told_84 : decode cX9_told 84 = .ok (.lreturn, 1) := by decide +kernel
theorem dX9_told_85 : decode cX9_told 85 = .ok (.ldc2_w 174, 3) := by decide +kernel
theorem dX9_told_88 : decode cX9_told 88 = .ok (.lreturn, 1) := by decide +kernel
set_option maxRecDepth 20000 in
theorem ggX9_isLog_X9_in : GoodIn wsX9_isLog wsX9_in := goodIn_r _ [5] (by decide +kernel) (by decide +kernel)
set_option maxRecDepth 20000 in
theorem gX9_isLog_X9_in : GoodIn wsX9_isLog (va_wsS RX9 115 yX9_in wsX9_in) := goodIn_app (goodIn_of _ (by decide +kernel)) ggX9_isLog_X9_in
theorem dX9_isLog_0 : decode cX9_isLog 0 = .ok (.iload_n 0, 1) := by decide +kernel
theorem dX9_isLog_1 : decode cX9_isLog 1 = .ok (.i2l, 1) := by decide +kernel
theorem dX9_isLog_2 : decode cX9_isLog 2 = .ok (.lconst 0, 1) := by decide +kernel
theorem dX9_isLog_3 : decode cX9_isLog 3 = .ok (.ldc2_w 176, 3) := by decide +kernel
theorem dX9_isLog_6 : decode cX9_isLog 6 = .ok (.invokestatic 115, 3) := by decide +kernel
theorem dX9_isLog_9 : decode cX9_isLog 9 = .ok (.ireturn, 1) := by decide +kernel
theorem dX9_laneOfLog_0 : decode cX9_laneOfLog 0 = .ok (.iload_n 0, 1) := by decide +kernel
theorem dX9_laneOfLog_1 : decode cX9_laneOfLog 1 = .ok (.iconst 4, 1) := by decide +kernel
theorem dX9_laneOfLog_2 : decode cX9_laneOfLog 2 = .ok (.if_icmp .ge 7, 3) := by decide +kernel
theorem dX9_laneOfLog_5 : decode cX9_laneOfLog 5 = .ok (.iconst 2, 1) := by decide +kernel
theorem dX9_laneOfLog_6 : decode cX9_laneOfLog 6 = .ok (.goto 4, 3) := by decide +kernel
theorem dX9_laneOfLog_9 : decode cX9_laneOfLog 9 = .ok (.iconst 3, 1) := by decide +kernel
theorem dX9_laneOfLog_10 : decode cX9_laneOfLog 10 = .ok (.ireturn, 1) := by decide +kernel
set_option maxRecDepth 20000 in
theorem ggX9_log_X9_isLog : GoodIn wsX9_log wsX9_isLog := goodIn_r _ [9, 10, 11, 12, 8, 13] (by decide +kernel) (by decide +kernel)
set_option maxRecDepth 20000 in
theorem gX9_log_X9_isLog : GoodIn wsX9_log (va_wsS RX9 178 yX9_isLog wsX9_isLog) := goodIn_app (goodIn_of _ (by decide +kernel)) ggX9_log_X9_isLog
set_option maxRecDepth 20000 in
theorem ggX9_log_X9_in : GoodIn wsX9_log wsX9_in := goodIn_r _ [13] (by decide +kernel) (by decide +kernel)
set_option maxRecDepth 20000 in
theorem gX9_log_X9_in : GoodIn wsX9_log (va_wsS RX9 115 yX9_in wsX9_in) := goodIn_app (goodIn_of _ (by decide +kernel)) ggX9_log_X9_in
theorem dX9_log_0 : decode cX9_log 0 = .ok (.aload_n 0, 1) := by decide +kernel
theorem dX9_log_1 : decode cX9_log 1 = .ok (.iconst 0, 1) := by decide +kernel
theorem dX9_log_2 : decode cX9_log 2 = .ok (.putfield 61, 3) := by decide +kernel
theorem dX9_log_5 : decode cX9_log 5 = .ok (.iload_n 1, 1) := by decide +kernel
theorem dX9_log_6 : decode cX9_log 6 = .ok (.invokestatic 178, 3) := by decide +kernel
theorem dX9_log_9 : decode cX9_log 9 = .ok (.ifCond .ne 7, 3) := by decide +kernel
theorem dX9_log_12 : decode cX9_log 12 = .ok (.sipush (-1001), 3) := by decide +kernel
theorem dX9_log_15 : decode cX9_log 15 = .ok (.ireturn, 1) := by decide +kernel
theorem dX9_log_16 : decode cX9_log 16 = .ok (.iload_n 2, 1) := by decide +kernel
theorem dX9_log_17 : decode cX9_log 17 = .ok (.i2l, 1) := by decide +kernel
theorem dX9_log_18 : decode cX9_log 18 = .ok (.ldc2_w 181, 3) := by decide +kernel
theorem dX9_log_21 : decode cX9_log 21 = .ok (.ldc2_w 183, 3) := by decide +kernel
theorem dX9_log_24 : decode cX9_log 24 = .ok (.invokestatic 115, 3) := by decide +kernel
theorem dX9_log_27 : decode cX9_log 27 = .ok (.ifCond .ne 7, 3) := by decide +kernel
theorem dX9_log_30 : decode cX9_log 30 = .ok (.sipush (-1002), 3) := by decide +kernel
theorem dX9_log_33 : decode cX9_log 33 = .ok (.ireturn, 1) := by decide +kernel
theorem dX9_log_34 : decode cX9_log 34 = .ok (.aload_n 0, 1) := by decide +kernel
theorem dX9_log_35 : decode cX9_log 35 = .ok (.getfield 30, 3) := by decide +kernel
theorem dX9_log_38 : decode cX9_log 38 = .ok (.iload_n 1, 1) := by decide +kernel
theorem dX9_log_39 : decode cX9_log 39 = .ok (.iload_n 2, 1) := by decide +kernel
theorem dX9_log_40 : decode cX9_log 40 = .ok (.iastore, 1) := by decide +kernel
theorem dX9_log_41 : decode cX9_log 41 = .ok (.iconst 0, 1) := by decide +kernel
theorem dX9_log_42 : decode cX9_log 42 = .ok (.istore_n 3, 1) := by decide +kernel
theorem dX9_log_43 : decode cX9_log 43 = .ok (.iload_n 3, 1) := by decide +kernel
theorem dX9_log_44 : decode cX9_log 44 = .ok (.iload_n 2, 1) := by decide +kernel
theorem dX9_log_45 : decode cX9_log 45 = .ok (.if_icmp .ge 21, 3) := by decide +kernel
theorem dX9_log_48 : decode cX9_log 48 = .ok (.aload_n 0, 1) := by decide +kernel
theorem dX9_log_49 : decode cX9_log 49 = .ok (.getfield 33, 3) := by decide +kernel
theorem dX9_log_52 : decode cX9_log 52 = .ok (.bipush 16, 2) := by decide +kernel
theorem dX9_log_54 : decode cX9_log 54 = .ok (.iload_n 1, 1) := by decide +kernel
theorem dX9_log_55 : decode cX9_log 55 = .ok (.imul, 1) := by decide +kernel
theorem dX9_log_56 : decode cX9_log 56 = .ok (.iload_n 3, 1) := by decide +kernel
theorem dX9_log_57 : decode cX9_log 57 = .ok (.iadd, 1) := by decide +kernel
theorem dX9_log_58 : decode cX9_log 58 = .ok (.lconst 0, 1) := by decide +kernel
theorem dX9_log_59 : decode cX9_log 59 = .ok (.lastore, 1) := by decide +kernel
theorem dX9_log_60 : decode cX9_log 60 = .ok (.iinc 3 1, 3) := by decide +kernel
theorem dX9_log_63 : decode cX9_log 63 = .ok (.goto (-20), 3) := by decide +kernel
theorem dX9_log_66 : decode cX9_log 66 = .ok (.iconst 1, 1) := by decide +kernel
theorem dX9_log_67 : decode cX9_log 67 = .ok (.ireturn, 1) := by decide +kernel
set_option maxRecDepth 20000 in
theorem ggX9_logCause_X9_in : GoodIn wsX9_logCause wsX9_in := goodIn_r _ [5] (by decide +kernel) (by decide +kernel)
set_option maxRecDepth 20000 in
theorem gX9_logCause_X9_in : GoodIn wsX9_logCause (va_wsS RX9 115 yX9_in wsX9_in) := goodIn_app (goodIn_of _ (by decide +kernel)) ggX9_logCause_X9_in
theorem dX9_logCause_0 : decode cX9_logCause 0 = .ok (.aload_n 0, 1) := by decide +kernel
theorem dX9_logCause_1 : decode cX9_logCause 1 = .ok (.getfield 30, 3) := by decide +kernel
theorem dX9_logCause_4 : decode cX9_logCause 4 = .ok (.iload_n 1, 1) := by decide +kernel
theorem dX9_logCause_5 : decode cX9_logCause 5 = .ok (.iaload, 1) := by decide +kernel
theorem dX9_logCause_6 : decode cX9_logCause 6 = .ok (.iconst (-1), 1) := by decide +kernel
theorem dX9_logCause_7 : decode cX9_logCause 7 = .ok (.if_icmp .ne 7, 3) := by decide +kernel
theorem dX9_logCause_10 : decode cX9_logCause 10 = .ok (.iconst 1, 1) := by decide +kernel
theorem dX9_logCause_11 : decode cX9_logCause 11 = .ok (.goto 26, 3) := by decide +kernel
theorem dX9_logCause_14 : decode cX9_logCause 14 = .ok (.iload_n 2, 1) := by decide +kernel
theorem dX9_logCause_15 : decode cX9_logCause 15 = .ok (.i2l, 1) := by decide +kernel
theorem dX9_logCause_16 : decode cX9_logCause 16 = .ok (.lconst 0, 1) := by decide +kernel
theorem dX9_logCause_17 : decode cX9_logCause 17 = .ok (.aload_n 0, 1) := by decide +kernel
theorem dX9_logCause_18 : decode cX9_logCause 18 = .ok (.getfield 30, 3) := by decide +kernel
theorem dX9_logCause_21 : decode cX9_logCause 21 = .ok (.iload_n 1, 1) := by decide +kernel
theorem dX9_logCause_22 : decode cX9_logCause 22 = .ok (.iaload, 1) := by decide +kernel
theorem dX9_logCause_23 : decode cX9_logCause 23 = .ok (.iconst 1, 1) := by decide +kernel
theorem dX9_logCause_24 : decode cX9_logCause 24 = .ok (.isub, 1) := by decide +kernel
theorem dX9_logCause_25 : decode cX9_logCause 25 = .ok (.i2l, 1) := by decide +kernel
theorem dX9_logCause_26 : decode cX9_logCause 26 = .ok (.invokestatic 115, 3) := by decide +kernel
theorem dX9_logCause_29 : decode cX9_logCause 29 = .ok (.ifCond .eq 7, 3) := by decide +kernel
theorem dX9_logCause_32 : decode cX9_logCause 32 = .ok (.iconst 0, 1) := by decide +kernel
theorem dX9_logCause_33 : decode cX9_logCause 33 = .ok (.goto 4, 3) := by decide +kernel
theorem dX9_logCause_36 : decode cX9_logCause 36 = .ok (.iconst 2, 1) := by decide +kernel
theorem dX9_logCause_37 : decode cX9_logCause 37 = .ok (.ireturn, 1) := by decide +kernel
set_option maxRecDepth 20000 in
theorem ggX9_write_X9_isLog : GoodIn wsX9_write wsX9_isLog := goodIn_r _ [9, 10, 11, 12, 8, 13] (by decide +kernel) (by decide +kernel)
set_option maxRecDepth 20000 in
theorem gX9_write_X9_isLog : GoodIn wsX9_write (va_wsS RX9 178 yX9_isLog wsX9_isLog) := goodIn_app (goodIn_of _ (by decide +kernel)) ggX9_write_X9_isLog
set_option maxRecDepth 20000 in
theorem ggX9_write_X9_isMeter : GoodIn wsX9_write wsX9_isMeter := goodIn_r _ [16, 17, 11, 12, 8, 13] (by decide +kernel) (by decide +kernel)
set_option maxRecDepth 20000 in
theorem gX9_write_X9_isMeter : GoodIn wsX9_write (va_wsS RX9 119 yX9_isMeter wsX9_isMeter) := goodIn_app (goodIn_of _ (by decide +kernel)) ggX9_write_X9_isMeter
set_option maxRecDepth 20000 in
theorem ggX9_write_X9_logCause : GoodIn wsX9_write wsX9_logCause := goodIn_r _ [21, 22, 11, 12, 8, 13, 70, 71, 72, 73, 74, 75, 76, 77, 78, 79, 80, 81, 82, 83, 84, 85, 86, 87, 88, 89] (by decide +kernel) (by decide +kernel)
set_option maxRecDepth 20000 in
theorem gX9_write_X9_logCause : GoodIn wsX9_write (wsV RX9 185 RX9 yX9_logCause wsX9_logCause) := goodIn_app (goodIn_of _ (by decide +kernel)) ggX9_write_X9_logCause
set_option maxRecDepth 20000 in
theorem ggX9_write_X9_laneOfLog : GoodIn wsX9_write wsX9_laneOfLog := goodIn_r _ [25] (by decide +kernel) (by decide +kernel)
set_option maxRecDepth 20000 in
theorem gX9_write_X9_laneOfLog : GoodIn wsX9_write (va_wsS RX9 189 yX9_laneOfLog wsX9_laneOfLog) := goodIn_app (goodIn_of _ (by decide +kernel)) ggX9_write_X9_laneOfLog
set_option maxRecDepth 20000 in
theorem ggX9_write_X9_turned : GoodIn wsX9_write wsX9_turned := goodIn_r _ [28, 29, 30, 31, 32, 33, 34, 35, 36, 37, 38, 39, 40, 41, 42, 43, 44, 45, 46, 47, 48, 49, 50, 51, 52, 53, 54, 8, 55, 56, 57, 58, 59, 60, 61, 62, 63, 64] (by decide +kernel) (by decide +kernel)
set_option maxRecDepth 20000 in
theorem gX9_write_X9_turned : GoodIn wsX9_write (va_wsS RX9 109 yX9_turned wsX9_turned) := goodIn_app (goodIn_of _ (by decide +kernel)) ggX9_write_X9_turned
set_option maxRecDepth 20000 in
theorem ggX9_write_X9_answers : GoodIn wsX9_write wsX9_answers := goodIn_r _ [68, 2, 69, 70, 71, 72, 73, 74, 75, 76, 77, 78, 79, 80, 81, 82, 83, 84, 85, 86, 87, 88, 89] (by decide +kernel) (by decide +kernel)
set_option maxRecDepth 20000 in
theorem gX9_write_X9_answers : GoodIn wsX9_write (wsV RX9 157 RX9 yX9_answers wsX9_answers) := goodIn_app (goodIn_of _ (by decide +kernel)) ggX9_write_X9_answers
theorem dX9_write_0 : decode cX9_write 0 = .ok (.aload_n 0, 1) := by decide +kernel
theorem dX9_write_1 : decode cX9_write 1 = .ok (.iconst 0, 1) := by decide +kernel
theorem dX9_write_2 : decode cX9_write 2 = .ok (.putfield 61, 3) := by decide +kernel
theorem dX9_write_5 : decode cX9_write 5 = .ok (.iload_n 1, 1) := by decide +kernel
theorem dX9_write_6 : decode cX9_write 6 = .ok (.invokestatic 178, 3) := by decide +kernel
theorem dX9_write_9 : decode cX9_write 9 = .ok (.ifCond .eq 10, 3) := by decide +kernel
theorem dX9_write_12 : decode cX9_write 12 = .ok (.iload_n 3, 1) := by decide +kernel
theorem dX9_write_13 : decode cX9_write 13 = .ok (.invokestatic 119, 3) := by decide +kernel
theorem dX9_write_16 : decode cX9_write 16 = .ok (.ifCond .ne 7, 3) := by decide +kernel
theorem dX9_write_19 : decode cX9_write 19 = .ok (.sipush (-1001), 3) := by decide +kernel
theorem dX9_write_22 : decode cX9_write 22 = .ok (.ireturn, 1) := by decide +kernel
theorem dX9_write_23 : decode cX9_write 23 = .ok (.aload_n 0, 1) := by decide +kernel
theorem dX9_write_24 : decode cX9_write 24 = .ok (.aload_n 0, 1) := by decide +kernel
theorem dX9_write_25 : decode cX9_write 25 = .ok (.iload_n 1, 1) := by decide +kernel
theorem dX9_write_26 : decode cX9_write 26 = .ok (.iload_n 2, 1) := by decide +kernel
theorem dX9_write_27 : decode cX9_write 27 = .ok (.invokevirtual 185, 3) := by decide +kernel
theorem dX9_write_30 : decode cX9_write 30 = .ok (.putfield 65, 3) := by decide +kernel
theorem dX9_write_33 : decode cX9_write 33 = .ok (.aload_n 0, 1) := by decide +kernel
theorem dX9_write_34 : decode cX9_write 34 = .ok (.getfield 65, 3) := by decide +kernel
theorem dX9_write_37 : decode cX9_write 37 = .ok (.ifCond .ne 33, 3) := by decide +kernel
theorem dX9_write_40 : decode cX9_write 40 = .ok (.aload_n 0, 1) := by decide +kernel
theorem dX9_write_41 : decode cX9_write 41 = .ok (.getfield 33, 3) := by decide +kernel
theorem dX9_write_44 : decode cX9_write 44 = .ok (.bipush 16, 2) := by decide +kernel
theorem dX9_write_46 : decode cX9_write 46 = .ok (.iload_n 1, 1) := by decide +kernel
theorem dX9_write_47 : decode cX9_write 47 = .ok (.imul, 1) := by decide +kernel
theorem dX9_write_48 : decode cX9_write 48 = .ok (.iload_n 2, 1) := by decide +kernel
theorem dX9_write_49 : decode cX9_write 49 = .ok (.iadd, 1) := by decide +kernel
theorem dX9_write_50 : decode cX9_write 50 = .ok (.aload_n 0, 1) := by decide +kernel
theorem dX9_write_51 : decode cX9_write 51 = .ok (.getfield 7, 3) := by decide +kernel
theorem dX9_write_54 : decode cX9_write 54 = .ok (.iload_n 3, 1) := by decide +kernel
theorem dX9_write_55 : decode cX9_write 55 = .ok (.iaload, 1) := by decide +kernel
theorem dX9_write_56 : decode cX9_write 56 = .ok (.aload_n 0, 1) := by decide +kernel
theorem dX9_write_57 : decode cX9_write 57 = .ok (.getfield 13, 3) := by decide +kernel
theorem dX9_write_60 : decode cX9_write 60 = .ok (.iload_n 3, 1) := by decide +kernel
theorem dX9_write_61 : decode cX9_write 61 = .ok (.laload, 1) := by decide +kernel
theorem dX9_write_62 : decode cX9_write 62 = .ok (.iload_n 1, 1) := by decide +kernel
theorem dX9_write_63 : decode cX9_write 63 = .ok (.invokestatic 189, 3) := by decide +kernel
theorem dX9_write_66 : decode cX9_write 66 = .ok (.invokestatic 109, 3) := by decide +kernel
theorem dX9_write_69 : decode cX9_write 69 = .ok (.lastore, 1) := by decide +kernel
theorem dX9_write_70 : decode cX9_write 70 = .ok (.aload_n 0, 1) := by decide +kernel
theorem dX9_write_71 : decode cX9_write 71 = .ok (.iconst 1, 1) := by decide +kernel
theorem dX9_write_72 : decode cX9_write 72 = .ok (.invokevirtual 157, 3) := by decide +kernel
theorem dX9_write_75 : decode cX9_write 75 = .ok (.ireturn, 1) := by decide +kernel
set_option maxRecDepth 20000 in
theorem ggX9_read_X9_isLog : GoodIn wsX9_read wsX9_isLog := goodIn_r _ [9, 10, 11, 12, 8, 13] (by decide +kernel) (by decide +kernel)
set_option maxRecDepth 20000 in
theorem gX9_read_X9_isLog : GoodIn wsX9_read (va_wsS RX9 178 yX9_isLog wsX9_isLog) := goodIn_app (goodIn_of _ (by decide +kernel)) ggX9_read_X9_isLog
set_option maxRecDepth 20000 in
theorem ggX9_read_X9_isMeter : GoodIn wsX9_read wsX9_isMeter := goodIn_r _ [16, 17, 11, 12, 8, 13] (by decide +kernel) (by decide +kernel)
set_option maxRecDepth 20000 in
theorem gX9_read_X9_isMeter : GoodIn wsX9_read (va_wsS RX9 119 yX9_isMeter wsX9_isMeter) := goodIn_app (goodIn_of _ (by decide +kernel)) ggX9_read_X9_isMeter
set_option maxRecDepth 20000 in
theorem ggX9_read_X9_logCause : GoodIn wsX9_read wsX9_logCause := goodIn_r _ [21, 22, 11, 12, 8, 13, 31, 32, 33, 34, 35, 36, 37, 38, 39, 40, 41, 42, 43, 44, 45, 46, 47, 48, 49, 50] (by decide +kernel) (by decide +kernel)
set_option maxRecDepth 20000 in
theorem gX9_read_X9_logCause : GoodIn wsX9_read (wsV RX9 185 RX9 yX9_logCause wsX9_logCause) := goodIn_app (goodIn_of _ (by decide +kernel)) ggX9_read_X9_logCause
set_option maxRecDepth 20000 in
theorem ggX9_read_X9_laneOfLog : GoodIn wsX9_read wsX9_laneOfLog := goodIn_r _ [25] (by decide +kernel) (by decide +kernel)
set_option maxRecDepth 20000 in
theorem gX9_read_X9_laneOfLog : GoodIn wsX9_read (va_wsS RX9 189 yX9_laneOfLog wsX9_laneOfLog) := goodIn_app (goodIn_of _ (by decide +kernel)) ggX9_read_X9_laneOfLog
set_option maxRecDepth 20000 in
theorem ggX9_read_X9_answers : GoodIn wsX9_read wsX9_answers := goodIn_r _ [29, 2, 30, 31, 32, 33, 34, 35, 36, 37, 38, 39, 40, 41, 42, 43, 44, 45, 46, 47, 48, 49, 50] (by decide +kernel) (by decide +kernel)
set_option maxRecDepth 20000 in
theorem gX9_read_X9_answers : GoodIn wsX9_read (wsV RX9 157 RX9 yX9_answers wsX9_answers) := goodIn_app (goodIn_of _ (by decide +kernel)) ggX9_read_X9_answers

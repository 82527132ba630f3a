theorem dX10_dances_99 : decode cX10_dances 99 = .ok (.aload_n 0, 1) := by decide +kernel
theorem dX10_dances_100 : decode cX10_dances 100 = .ok (.getfield 56, 3) := by decide +kernel
theorem dX10_dances_103 : decode cX10_dances 103 = .ok (.iload_n 3, 1) := by decide +kernel
theorem dX10_dances_104 : decode cX10_dances 104 = .ok (.iaload, 1) := by decide +kernel
theorem dX10_dances_105 : decode cX10_dances 105 = .ok (.aload_n 0, 1) := by decide +kernel
theorem dX10_dances_106 : decode cX10_dances 106 = .ok (.getfield 59, 3) := by decide +kernel
theorem dX10_dances_109 : decode cX10_dances 109 = .ok (.iload_n 3, 1) := by decide +kernel
theorem dX10_dances_110 : decode cX10_dances 110 = .ok (.iaload, 1) := by decide +kernel
theorem dX10_dances_111 : decode cX10_dances 111 = .ok (.aload_n 0, 1) := by decide +kernel
theorem dX10_dances_112 : decode cX10_dances 112 = .ok (.getfield 62, 3) := by decide +kernel
theorem dX10_dances_115 : decode cX10_dances 115 = .ok (.iload_n 3, 1) := by decide +kernel
theorem dX10_dances_116 : decode cX10_dances 116 = .ok (.iaload, 1) := by decide +kernel
theorem dX10_dances_117 : decode cX10_dances 117 = .ok (.iload 4, 2) := by decide +kernel
theorem dX10_dances_119 : decode cX10_dances 119 = .ok (.invokevirtual 165, 3) := by decide +kernel
theorem dX10_dances_122 : decode cX10_dances 122 = .ok (.istore 5, 2) := by decide +kernel
theorem dX10_dances_124 : decode cX10_dances 124 = .ok (.aload_n 0, 1) := by decide +kernel
theorem dX10_dances_125 : decode cX10_dances 125 = .ok (.iload 5, 2) := by decide +kernel
theorem dX10_dances_127 : decode cX10_dances 127 = .ok (.ifCond .eq 10, 3) := by decide +kernel
theorem dX10_dances_130 : decode cX10_dances 130 = .ok (.aload_n 0, 1) := by decide +kernel
theorem dX10_dances_131 : decode cX10_dances 131 = .ok (.getfield 155, 3) := by decide +kernel
theorem dX10_dances_134 : decode cX10_dances 134 = .ok (.goto 4, 3) := by decide +kernel
theorem dX10_dances_137 : decode cX10_dances 137 = .ok (.iload_n 3, 1) := by decide +kernel
theorem dX10_dances_138 : decode cX10_dances 138 = .ok (.putfield 155, 3) := by decide +kernel
theorem dX10_dances_141 : decode cX10_dances 141 = .ok (.aload_n 0, 1) := by decide +kernel
theorem dX10_dances_142 : decode cX10_dances 142 = .ok (.getfield 53, 3) := by decide +kernel
theorem dX10_dances_145 : decode cX10_dances 145 = .ok (.iload_n 3, 1) := by decide +kernel
theorem dX10_dances_146 : decode cX10_dances 146 = .ok (.iconst 1, 1) := by decide +kernel
theorem dX10_dances_147 : decode cX10_dances 147 = .ok (.iadd, 1) := by decide +kernel
theorem dX10_dances_148 : decode cX10_dances 148 = .ok (.iload 5, 2) := by decide +kernel
theorem dX10_dances_150 : decode cX10_dances 150 = .ok (.ifCond .eq 10, 3) := by decide +kernel
theorem dX10_dances_153 : decode cX10_dances 153 = .ok (.aload_n 0, 1) := by decide +kernel
theorem dX10_dances_154 : decode cX10_dances 154 = .ok (.getfield 140, 3) := by decide +kernel
theorem dX10_dances_157 : decode cX10_dances 157 = .ok (.goto 9, 3) := by decide +kernel
theorem dX10_dances_160 : decode cX10_dances 160 = .ok (.aload_n 0, 1) := by decide +kernel
theorem dX10_dances_161 : decode cX10_dances 161 = .ok (.getfield 53, 3) := by decide +kernel
theorem dX10_dances_164 : decode cX10_dances 164 = .ok (.iload_n 3, 1) := by decide +kernel
theorem dX10_dances_165 : decode cX10_dances 165 = .ok (.iaload, 1) := by decide +kernel
theorem dX10_dances_166 : decode cX10_dances 166 = .ok (.iastore, 1) := by decide +kernel
theorem dX10_dances_167 : decode cX10_dances 167 = .ok (.aload_n 0, 1) := by decide +kernel
theorem dX10_dances_168 : decode cX10_dances 168 = .ok (.getfield 56, 3) := by decide +kernel
theorem dX10_dances_171 : decode cX10_dances 171 = .ok (.iload_n 3, 1) := by decide +kernel
theorem dX10_dances_172 : decode cX10_dances 172 = .ok (.iconst 1, 1) := by decide +kernel
theorem dX10_dances_173 : decode cX10_dances 173 = .ok (.iadd, 1) := by decide +kernel
theorem dX10_dances_174 : decode cX10_dances 174 = .ok (.iload 5, 2) := by decide +kernel
theorem dX10_dances_176 : decode cX10_dances 176 = .ok (.ifCond .eq 10, 3) := by decide +kernel
theorem dX10_dances_179 : decode cX10_dances 179 = .ok (.aload_n 0, 1) := by decide +kernel
theorem dX10_dances_180 : decode cX10_dances 180 = .ok (.getfield 143, 3) := by decide +kernel
theorem dX10_dances_183 : decode cX10_dances 183 = .ok (.goto 9, 3) := by decide +kernel
theorem dX10_dances_186 : decode cX10_dances 186 = .ok (.aload_n 0, 1) := by decide +kernel
theorem dX10_dances_187 : decode cX10_dances 187 = .ok (.getfield 56, 3) := by decide +kernel
theorem dX10_dances_190 : decode cX10_dances 190 = .ok (.iload_n 3, 1) := by decide +kernel
theorem dX10_dances_191 : decode cX10_dances 191 = .ok (.iaload, 1) := by decide +kernel
theorem dX10_dances_192 : decode cX10_dances 192 = .ok (.iastore, 1) := by decide +kernel
theorem dX10_dances_193 : decode cX10_dances 193 = .ok (.aload_n 0, 1) := by decide +kernel
theorem dX10_dances_194 : decode cX10_dances 194 = .ok (.getfield 59, 3) := by decide +kernel
theorem dX10_dances_197 : decode cX10_dances 197 = .ok (.iload_n 3, 1) := by decide +kernel
theorem dX10_dances_198 : decode cX10_dances 198 = .ok (.iconst 1, 1) := by decide +kernel
theorem dX10_dances_199 : decode cX10_dances 199 = .ok (.iadd, 1) := by decide +kernel
theorem dX10_dances_200 : decode cX10_dances 200 = .ok (.iload 5, 2) := by decide +kernel
theorem dX10_dances_202 : decode cX10_dances 202 = .ok (.ifCond .eq 10, 3) := by decide +kernel
theorem dX10_dances_205 : decode cX10_dances 205 = .ok (.aload_n 0, 1) := by decide +kernel
theorem dX10_dances_206 : decode cX10_dances 206 = .ok (.getfield 146, 3) := by decide +kernel
theorem dX10_dances_209 : decode cX10_dances 209 = .ok (.goto 9, 3) := by decide +kernel
theorem dX10_dances_212 : decode cX10_dances 212 = .ok (.aload_n 0, 1) := by decide +kernel
theorem dX10_dances_213 : decode cX10_dances 213 = .ok (.getfield 59, 3) := by decide +kernel
theorem dX10_dances_216 : decode cX10_dances 216 = .ok (.iload_n 3, 1) := by decide +kernel
theorem dX10_dances_217 : decode cX10_dances 217 = .ok (.iaload, 1) := by decide +kernel
theorem dX10_dances_218 : decode cX10_dances 218 = .ok (.iastore, 1) := by decide +kernel
theorem dX10_dances_219 : decode cX10_dances 219 = .ok (.aload_n 0, 1) := by decide +kernel
theorem dX10_dances_220 : decode cX10_dances 220 = .ok (.getfield 62, 3) := by decide +kernel
theorem dX10_dances_223 : decode cX10_dances 223 = .ok (.iload_n 3, 1) := by decide +kernel
theorem dX10_dances_224 : decode cX10_dances 224 = .ok (.iconst 1, 1) := by decide +kernel
theorem dX10_dances_225 : decode cX10_dances 225 = .ok (.iadd, 1) := by decide +kernel
theorem dX10_dances_226 : decode cX10_dances 226 = .ok (.iload 5, 2) := by decide +kernel
theorem dX10_dances_228 : decode cX10_dances 228 = .ok (.ifCond .eq 10, 3) := by decide +kernel
theorem dX10_dances_231 : decode cX10_dances 231 = .ok (.aload_n 0, 1) := by decide +kernel
theorem dX10_dances_232 : decode cX10_dances 232 = .ok (.getfield 149, 3) := by decide +kernel
theorem dX10_dances_235 : decode cX10_dances 235 = .ok (.goto 9, 3) := by decide +kernel
theorem dX10_dances_238 : decode cX10_dances 238 = .ok (.aload_n 0, 1) := by decide +kernel
theorem dX10_dances_239 : decode cX10_dances 239 = .ok (.getfield 62, 3) := by decide +kernel
theorem dX10_dances_242 : decode cX10_dances 242 = .ok (.iload_n 3, 1) := by decide +kernel
theorem dX10_dances_243 : decode cX10_dances 243 = .ok (.iaload, 1) := by decide +kernel
theorem dX10_dances_244 : decode cX10_dances 244 = .ok (.iastore, 1) := by decide +kernel
theorem dX10_dances_245 : decode cX10_dances 245 = .ok (.iinc 3 1, 3) := by decide +kernel
theorem dX10_dances_248 : decode cX10_dances 248 = .ok (.goto (-197), 3) := by decide +kernel
theorem dX10_dances_251 : decode cX10_dances 251 = .ok (.return_, 1) := by decide +kernel
set_option maxRecDepth 20000 in
theorem ggX10_sign_X10_isDancer : GoodIn wsX10_sign wsX10_isDancer := goodIn_r _ [5, 6, 7, 8, 4, 9, 19, 20, 21, 22, 23, 24, 25, 26, 27, 28, 29, 30, 31, 32, 33, 34, 35, 36, 37, 38, 39, 40, 41, 42, 43, 44, 45, 46, 47, 48, 49, 50, 51, 52, 53, 54, 55] (by decide +kernel) (by decide +kernel)
set_option maxRecDepth 20000 in
theorem gX10_sign_X10_isDancer : GoodIn wsX10_sign (wsV RX10 169 RX10 yX10_isDancer wsX10_isDancer) := goodIn_app (goodIn_of _ (by decide +kernel)) ggX10_sign_X10_isDancer
set_option maxRecDepth 20000 in
theorem ggX10_sign_X10_in : GoodIn wsX10_sign wsX10_in := goodIn_r _ [9] (by decide +kernel) (by decide +kernel)
set_option maxRecDepth 20000 in
theorem gX10_sign_X10_in : GoodIn wsX10_sign (va_wsS RX10 74 yX10_in wsX10_in) := goodIn_app (goodIn_of _ (by decide +kernel)) ggX10_sign_X10_in
set_option maxRecDepth 20000 in
theorem ggX10_sign_X10_sizeOf : GoodIn wsX10_sign wsX10_sizeOf := goodIn_r _ [13, 14, 19, 20, 21, 22, 23, 24, 25, 26, 27, 28, 29, 30, 31, 32, 33, 34, 35, 36, 37, 38, 39, 40, 41, 42, 43, 44, 45, 46, 47, 48, 49, 50, 51, 52, 53, 54, 55] (by decide +kernel) (by decide +kernel)
set_option maxRecDepth 20000 in
theorem gX10_sign_X10_sizeOf : GoodIn wsX10_sign (wsV RX10 158 RX10 yX10_sizeOf wsX10_sizeOf) := goodIn_app (goodIn_of _ (by decide +kernel)) ggX10_sign_X10_sizeOf
set_option maxRecDepth 20000 in
theorem ggX10_sign_X10_signOf : GoodIn wsX10_sign wsX10_signOf := goodIn_r _ [18, 14, 19, 20, 21, 22, 23, 24, 25, 26, 27, 28, 29, 30, 31, 32, 33, 34, 35, 36, 37, 38, 39, 40, 41, 42, 43, 44, 45, 46, 47, 48, 49, 50, 51, 52, 53, 54, 55] (by decide +kernel) (by decide +kernel)
set_option maxRecDepth 20000 in
theorem gX10_sign_X10_signOf : GoodIn wsX10_sign (wsV RX10 161 RX10 yX10_signOf wsX10_signOf) := goodIn_app (goodIn_of _ (by decide +kernel)) ggX10_sign_X10_signOf
theorem dX10_sign_0 : decode cX10_sign 0 = .ok (.aload_n 0, 1) := by decide +kernel
theorem dX10_sign_1 : decode cX10_sign 1 = .ok (.iload_n 1, 1) := by decide +kernel
theorem dX10_sign_2 : decode cX10_sign 2 = .ok (.invokevirtual 169, 3) := by decide +kernel
theorem dX10_sign_5 : decode cX10_sign 5 = .ok (.ifCond .eq 13, 3) := by decide +kernel
theorem dX10_sign_8 : decode cX10_sign 8 = .ok (.iload_n 2, 1) := by decide +kernel
theorem dX10_sign_9 : decode cX10_sign 9 = .ok (.iconst 0, 1) := by decide +kernel
theorem dX10_sign_10 : decode cX10_sign 10 = .ok (.bipush 9, 2) := by decide +kernel
theorem dX10_sign_12 : decode cX10_sign 12 = .ok (.invokestatic 74, 3) := by decide +kernel
theorem dX10_sign_15 : decode cX10_sign 15 = .ok (.ifCond .ne 5, 3) := by decide +kernel
theorem dX10_sign_18 : decode cX10_sign 18 = .ok (.iconst (-1), 1) := by decide +kernel
theorem dX10_sign_19 : decode cX10_sign 19 = .ok (.ireturn, 1) := by decide +kernel
theorem dX10_sign_20 : decode cX10_sign 20 = .ok (.iload_n 2, 1) := by decide +kernel
theorem dX10_sign_21 : decode cX10_sign 21 = .ok (.aload_n 0, 1) := by decide +kernel
theorem dX10_sign_22 : decode cX10_sign 22 = .ok (.iload_n 1, 1) := by decide +kernel
theorem dX10_sign_23 : decode cX10_sign 23 = .ok (.invokevirtual 158, 3) := by decide +kernel
theorem dX10_sign_26 : decode cX10_sign 26 = .ok (.if_icmp .ge 12, 3) := by decide +kernel
theorem dX10_sign_29 : decode cX10_sign 29 = .ok (.aload_n 0, 1) := by decide +kernel
theorem dX10_sign_30 : decode cX10_sign 30 = .ok (.iload_n 1, 1) := by decide +kernel
theorem dX10_sign_31 : decode cX10_sign 31 = .ok (.iload_n 2, 1) := by decide +kernel
theorem dX10_sign_32 : decode cX10_sign 32 = .ok (.invokevirtual 161, 3) := by decide +kernel
theorem dX10_sign_35 : decode cX10_sign 35 = .ok (.goto 5, 3) := by decide +kernel
theorem dX10_sign_38 : decode cX10_sign 38 = .ok (.bipush (-9), 2) := by decide +kernel
theorem dX10_sign_40 : decode cX10_sign 40 = .ok (.ireturn, 1) := by decide +kernel
set_option maxRecDepth 20000 in
theorem ggX10_stand_X10_isDancer : GoodIn wsX10_stand wsX10_isDancer := goodIn_r _ [9, 10, 11, 12, 8, 13, 45, 46, 47, 48, 49, 50, 51, 52, 53, 54, 55, 56, 57, 58, 59, 60, 61, 62, 63, 64, 65, 66, 67, 68, 69, 70, 71, 72, 73, 74, 75, 76, 77, 78, 79, 80, 81] (by decide +kernel) (by decide +kernel)
set_option maxRecDepth 20000 in
theorem gX10_stand_X10_isDancer : GoodIn wsX10_stand (wsV RX10 169 RX10 yX10_isDancer wsX10_isDancer) := goodIn_app (goodIn_of _ (by decide +kernel)) ggX10_stand_X10_isDancer
set_option maxRecDepth 20000 in
theorem ggX10_stand_X10_in : GoodIn wsX10_stand wsX10_in := goodIn_r _ [13] (by decide +kernel) (by decide +kernel)
set_option maxRecDepth 20000 in
theorem gX10_stand_X10_in : GoodIn wsX10_stand (va_wsS RX10 74 yX10_in wsX10_in) := goodIn_app (goodIn_of _ (by decide +kernel)) ggX10_stand_X10_in
set_option maxRecDepth 20000 in
theorem ggX10_stand_X10_dances : GoodIn wsX10_stand wsX10_dances := goodIn_r _ [17, 1, 18, 2, 19, 3, 20, 4, 21, 22, 23, 24, 25, 26, 27, 28, 8, 29, 30, 31, 32, 33, 34, 35, 36, 37, 38, 39, 40, 41, 42, 43, 44, 11, 12, 13, 45, 46, 47, 48, 49, 50, 51, 52, 53, 54, 55, 56, 57, 58, 59, 60, 61, 62, 63, 64, 65, 66, 67, 68, 69, 70, 71, 72, 73, 74, 75, 76, 77, 78, 79, 80, 81] (by decide +kernel) (by decide +kernel)
set_option maxRecDepth 20000 in
theorem gX10_stand_X10_dances : GoodIn wsX10_stand (wsV RX10 172 RX10 yX10_dances wsX10_dances) := goodIn_app (goodIn_of _ (by decide +kernel)) ggX10_stand_X10_dances
theorem dX10_stand_0 : decode cX10_stand 0 = .ok (.aload_n 0, 1) := by decide +kernel
theorem dX10_stand_1 : decode cX10_stand 1 = .ok (.iload_n 1, 1) := by decide +kernel
theorem dX10_stand_2 : decode cX10_stand 2 = .ok (.invokevirtual 169, 3) := by decide +kernel
theorem dX10_stand_5 : decode cX10_stand 5 = .ok (.ifCond .eq 22, 3) := by decide +kernel
theorem dX10_stand_8 : decode cX10_stand 8 = .ok (.iload_n 2, 1) := by decide +kernel
theorem dX10_stand_9 : decode cX10_stand 9 = .ok (.iconst 0, 1) := by decide +kernel
theorem dX10_stand_10 : decode cX10_stand 10 = .ok (.bipush 10, 2) := by decide +kernel
theorem dX10_stand_12 : decode cX10_stand 12 = .ok (.invokestatic 74, 3) := by decide +kernel
theorem dX10_stand_15 : decode cX10_stand 15 = .ok (.ifCond .eq 12, 3) := by decide +kernel
theorem dX10_stand_18 : decode cX10_stand 18 = .ok (.iload_n 3, 1) := by decide +kernel
theorem dX10_stand_19 : decode cX10_stand 19 = .ok (.iconst 0, 1) := by decide +kernel
theorem dX10_stand_20 : decode cX10_stand 20 = .ok (.iconst 3, 1) := by decide +kernel
theorem dX10_stand_21 : decode cX10_stand 21 = .ok (.invokestatic 74, 3) := by decide +kernel
theorem dX10_stand_24 : decode cX10_stand 24 = .ok (.ifCond .ne 5, 3) := by decide +kernel
theorem dX10_stand_27 : decode cX10_stand 27 = .ok (.iconst (-1), 1) := by decide +kernel
theorem dX10_stand_28 : decode cX10_stand 28 = .ok (.ireturn, 1) := by decide +kernel
theorem dX10_stand_29 : decode cX10_stand 29 = .ok (.aload_n 0, 1) := by decide +kernel
theorem dX10_stand_30 : decode cX10_stand 30 = .ok (.iload_n 1, 1) := by decide +kernel
theorem dX10_stand_31 : decode cX10_stand 31 = .ok (.bipush (-9), 2) := by decide +kernel
theorem dX10_stand_33 : decode cX10_stand 33 = .ok (.invokevirtual 172, 3) := by decide +kernel
theorem dX10_stand_36 : decode cX10_stand 36 = .ok (.iload_n 3, 1) := by decide +kernel
theorem dX10_stand_37 : decode cX10_stand 37 = .ok (.ifCond .ne 12, 3) := by decide +kernel
theorem dX10_stand_40 : decode cX10_stand 40 = .ok (.aload_n 0, 1) := by decide +kernel
theorem dX10_stand_41 : decode cX10_stand 41 = .ok (.getfield 53, 3) := by decide +kernel
theorem dX10_stand_44 : decode cX10_stand 44 = .ok (.iload_n 2, 1) := by decide +kernel
theorem dX10_stand_45 : decode cX10_stand 45 = .ok (.iaload, 1) := by decide +kernel
theorem dX10_stand_46 : decode cX10_stand 46 = .ok (.goto 37, 3) := by decide +kernel
theorem dX10_stand_49 : decode cX10_stand 49 = .ok (.iload_n 3, 1) := by decide +kernel
theorem dX10_stand_50 : decode cX10_stand 50 = .ok (.iconst 1, 1) := by decide +kernel
theorem dX10_stand_51 : decode cX10_stand 51 = .ok (.if_icmp .ne 12, 3) := by decide +kernel
theorem dX10_stand_54 : decode cX10_stand 54 = .ok (.aload_n 0, 1) := by decide +kernel
theorem dX10_stand_55 : decode cX10_stand 55 = .ok (.getfield 56, 3) := by decide +kernel
theorem dX10_stand_58 : decode cX10_stand 58 = .ok (.iload_n 2, 1) := by decide +kernel
theorem dX10_stand_59 : decode cX10_stand 59 = .ok (.iaload, 1) := by decide +kernel
theorem dX10_stand_60 : decode cX10_stand 60 = .ok (.goto 23, 3) := by decide +kernel
theorem dX10_stand_63 : decode cX10_stand 63 = .ok (.iload_n 3, 1) := by decide +kernel
theorem dX10_stand_64 : decode cX10_stand 64 = .ok (.iconst 2, 1) := by decide +kernel
theorem dX10_stand_65 : decode cX10_stand 65 = .ok (.if_icmp .ne 12, 3) := by decide +kernel
theorem dX10_stand_68 : decode cX10_stand 68 = .ok (.aload_n 0, 1) := by decide +kernel
theorem dX10_stand_69 : decode cX10_stand 69 = .ok (.getfield 59, 3) := by decide +kernel
theorem dX10_stand_72 : decode cX10_stand 72 = .ok (.iload_n 2, 1) := by decide +kernel
theorem dX10_stand_73 : decode cX10_stand 73 = .ok (.iaload, 1) := by decide +kernel
theorem dX10_stand_74 : decode cX10_stand 74 = .ok (.goto 9, 3) := by decide +kernel
theorem dX10_stand_77 : decode cX10_stand 77 = .ok (.aload_n 0, 1) := by decide +kernel
theorem dX10_stand_78 : decode cX10_stand 78 = .ok (.getfield 62, 3) := by decide +kernel
theorem dX10_stand_81 : decode cX10_stand 81 = .ok (.iload_n 2, 1) := by decide +kernel
theorem dX10_stand_82 : decode cX10_stand 82 = .ok (.iaload, 1) := by decide +kernel
theorem dX10_stand_83 : decode cX10_stand 83 = .ok (.ireturn, 1) := by decide +kernel
theorem dX10_isAt_0 : decode cX10_isAt 0 = .ok (.aload_n 0, 1) := by decide +kernel
theorem dX10_isAt_1 : decode cX10_isAt 1 = .ok (.getfield 53, 3) := by decide +kernel
theorem dX10_isAt_4 : decode cX10_isAt 4 = .ok (.iload_n 1, 1) := by decide +kernel
theorem dX10_isAt_5 : decode cX10_isAt 5 = .ok (.iaload, 1) := by decide +kernel
theorem dX10_isAt_6 : decode cX10_isAt 6 = .ok (.iload_n 2, 1) := by decide +kernel
theorem dX10_isAt_7 : decode cX10_isAt 7 = .ok (.if_icmp .ne 17, 3) := by decide +kernel
theorem dX10_isAt_10 : decode cX10_isAt 10 = .ok (.aload_n 0, 1) := by decide +kernel
theorem dX10_isAt_11 : decode cX10_isAt 11 = .ok (.getfield 56, 3) := by decide +kernel
theorem dX10_isAt_14 : decode cX10_isAt 14 = .ok (.iload_n 1, 1) := by decide +kernel
theorem dX10_isAt_15 : decode cX10_isAt 15 = .ok (.iaload, 1) := by decide +kernel
theorem dX10_isAt_16 : decode cX10_isAt 16 = .ok (.iload_n 3, 1) := by decide +kernel
theorem dX10_isAt_17 : decode cX10_isAt 17 = .ok (.if_icmp .ne 7, 3) := by decide +kernel
theorem dX10_isAt_20 : decode cX10_isAt 20 = .ok (.iconst 1, 1) := by decide +kernel
theorem dX10_isAt_21 : decode cX10_isAt 21 = .ok (.goto 4, 3) := by decide +kernel
theorem dX10_isAt_24 : decode cX10_isAt 24 = .ok (.iconst 0, 1) := by decide +kernel
theorem dX10_isAt_25 : decode cX10_isAt 25 = .ok (.ireturn, 1) := by decide +kernel
set_option maxRecDepth 20000 in
theorem ggX10_span_X10_isAt : GoodIn wsX10_span wsX10_isAt := goodIn_r _ [7, 1, 2, 8, 9, 10, 11, 12, 13, 14, 15, 16, 17, 18, 19, 20, 21, 22, 23, 24, 25, 26, 27, 28, 29, 30, 31, 32, 33, 34, 35, 36, 37, 38, 39, 40, 41, 42, 43, 44] (by decide +kernel) (by decide +kernel)
set_option maxRecDepth 20000 in
theorem gX10_span_X10_isAt : GoodIn wsX10_span (wsV RX10 176 RX10 yX10_isAt wsX10_isAt) := goodIn_app (goodIn_of _ (by decide +kernel)) ggX10_span_X10_isAt
theorem dX10_span_0 : decode cX10_span 0 = .ok (.iconst 0, 1) := by decide +kernel
theorem dX10_span_1 : decode cX10_span 1 = .ok (.istore_n 1, 1) := by decide +kernel
theorem dX10_span_2 : decode cX10_span 2 = .ok (.iconst 0, 1) := by decide +kernel
theorem dX10_span_3 : decode cX10_span 3 = .ok (.istore_n 2, 1) := by decide +kernel
theorem dX10_span_4 : decode cX10_span 4 = .ok (.iload_n 2, 1) := by decide +kernel
theorem dX10_span_5 : decode cX10_span 5 = .ok (.bipush 10, 2) := by decide +kernel
theorem dX10_span_7 : decode cX10_span 7 = .ok (.if_icmp .gt 69, 3) := by decide +kernel
theorem dX10_span_10 : decode cX10_span 10 = .ok (.iconst 1, 1) := by decide +kernel
theorem dX10_span_11 : decode cX10_span 11 = .ok (.istore_n 3, 1) := by decide +kernel
theorem dX10_span_12 : decode cX10_span 12 = .ok (.iconst 0, 1) := by decide +kernel
theorem dX10_span_13 : decode cX10_span 13 = .ok (.istore 4, 2) := by decide +kernel
theorem dX10_span_15 : decode cX10_span 15 = .ok (.iload 4, 2) := by decide +kernel
theorem dX10_span_17 : decode cX10_span 17 = .ok (.iload_n 2, 1) := by decide +kernel
theorem dX10_span_18 : decode cX10_span 18 = .ok (.if_icmp .ge 40, 3) := by decide +kernel
theorem dX10_span_21 : decode cX10_span 21 = .ok (.iload_n 3, 1) := by decide +kernel
theorem dX10_span_22 : decode cX10_span 22 = .ok (.ifCond .eq 28, 3) := by decide +kernel
theorem dX10_span_25 : decode cX10_span 25 = .ok (.aload_n 0, 1) := by decide +kernel
theorem dX10_span_26 : decode cX10_span 26 = .ok (.iload 4, 2) := by decide +kernel
theorem dX10_span_28 : decode cX10_span 28 = .ok (.aload_n 0, 1) := by decide +kernel
theorem dX10_span_29 : decode cX10_span 29 = .ok (.getfield 53, 3) := by decide +kernel
theorem dX10_span_32 : decode cX10_span 32 = .ok (.iload_n 2, 1) := by decide +kernel
theorem dX10_span_33 : decode cX10_span 33 = .ok (.iaload, 1) := by decide +kernel
theorem dX10_span_34 : decode cX10_span 34 = .ok (.aload_n 0, 1) := by decide +kernel
theorem dX10_span_35 : decode cX10_span 35 = .ok (.getfield 56, 3) := by decide +kernel
theorem dX10_span_38 : decode cX10_span 38 = .ok (.iload_n 2, 1) := by decide +kernel
theorem dX10_span_39 : decode cX10_span 39 = .ok (.iaload, 1) := by decide +kernel
theorem dX10_span_40 : decode cX10_span 40 = .ok (.invokevirtual 176, 3) := by decide +kernel
theorem dX10_span_43 : decode cX10_span 43 = .ok (.ifCond .ne 7, 3) := by decide +kernel
theorem dX10_span_46 : decode cX10_span 46 = .ok (.iconst 1, 1) := by decide +kernel
theorem dX10_span_47 : decode cX10_span 47 = .ok (.goto 4, 3) := by decide +kernel
theorem dX10_span_50 : decode cX10_span 50 = .ok (.iconst 0, 1) := by decide +kernel
theorem dX10_span_51 : decode cX10_span 51 = .ok (.istore_n 3, 1) := by decide +kernel
theorem dX10_span_52 : decode cX10_span 52 = .ok (.iinc 4 1, 3) := by decide +kernel
theorem dX10_span_55 : decode cX10_span 55 = .ok (.goto (-40), 3) := by decide +kernel
theorem dX10_span_58 : decode cX10_span 58 = .ok (.iload_n 1, 1) := by decide +kernel
theorem dX10_span_59 : decode cX10_span 59 = .ok (.iload_n 3, 1) := by decide +kernel
theorem dX10_span_60 : decode cX10_span 60 = .ok (.ifCond .eq 7, 3) := by decide +kernel
theorem dX10_span_63 : decode cX10_span 63 = .ok (.iconst 1, 1) := by decide +kernel
theorem dX10_span_64 : decode cX10_span 64 = .ok (.goto 4, 3) := by decide +kernel
theorem dX10_span_67 : decode cX10_span 67 = .ok (.iconst 0, 1) := by decide +kernel
theorem dX10_span_68 : decode cX10_span 68 = .ok (.iadd, 1) := by decide +kernel
theorem dX10_span_69 : decode cX10_span 69 = .ok (.istore_n 1, 1) := by decide +kernel
theorem dX10_span_70 : decode cX10_span 70 = .ok (.iinc 2 1, 3) := by decide +kernel
theorem dX10_span_73 : decode cX10_span 73 = .ok (.goto (-69), 3) := by decide +kernel
theorem dX10_span_76 : decode cX10_span 76 = .ok (.iload_n 1, 1) := by decide +kernel
theorem dX10_span_77 : decode cX10_span 77 = .ok (.ireturn, 1) := by decide +kernel
theorem dX10_shifts_0 : decode cX10_shifts 0 = .ok (.iconst 0, 1) := by decide +kernel
theorem dX10_shifts_1 : decode cX10_shifts 1 = .ok (.istore_n 1, 1) := by decide +kernel
theorem dX10_shifts_2 : decode cX10_shifts 2 = .ok (.iconst 1, 1) := by decide +kernel
theorem dX10_shifts_3 : decode cX10_shifts 3 = .ok (.istore_n 2, 1) := by decide +kernel
theorem dX10_shifts_4 : decode cX10_shifts 4 = .ok (.iload_n 2, 1) := by decide +kernel
theorem dX10_shifts_5 : decode cX10_shifts 5 = .ok (.bipush 10, 2) := by decide +kernel
theorem dX10_shifts_7 : decode cX10_shifts 7 = .ok (.if_icmp .gt 34, 3) := by decide +kernel
theorem dX10_shifts_10 : decode cX10_shifts 10 = .ok (.iload_n 1, 1) := by decide +kernel
theorem dX10_shifts_11 : decode cX10_shifts 11 = .ok (.aload_n 0, 1) := by decide +kernel
theorem dX10_shifts_12 : decode cX10_shifts 12 = .ok (.getfield 62, 3) := by decide +kernel
theorem dX10_shifts_15 : decode cX10_shifts 15 = .ok (.iload_n 2, 1) := by decide +kernel
theorem dX10_shifts_16 : decode cX10_shifts 16 = .ok (.iaload, 1) := by decide +kernel
theorem dX10_shifts_17 : decode cX10_shifts 17 = .ok (.aload_n 0, 1) := by decide +kernel
theorem dX10_shifts_18 : decode cX10_shifts 18 = .ok (.getfield 62, 3) := by decide +kernel
theorem dX10_shifts_21 : decode cX10_shifts 21 = .ok (.iload_n 2, 1) := by decide +kernel
theorem dX10_shifts_22 : decode cX10_shifts 22 = .ok (.iconst 1, 1) := by decide +kernel
theorem dX10_shifts_23 : decode cX10_shifts 23 = .ok (.isub, 1) := by decide +kernel
theorem dX10_shifts_24 : decode cX10_shifts 24 = .ok (.iaload, 1) := by decide +kernel
theorem dX10_shifts_25 : decode cX10_shifts 25 = .ok (.if_icmp .eq 7, 3) := by decide +kernel
theorem dX10_shifts_28 : decode cX10_shifts 28 = .ok (.iconst 1, 1) := by decide +kernel
theorem dX10_shifts_29 : decode cX10_shifts 29 = .ok (.goto 4, 3) := by decide +kernel
theorem dX10_shifts_32 : decode cX10_shifts 32 = .ok (.iconst 0, 1) := by decide +kernel
theorem dX10_shifts_33 : decode cX10_shifts 33 = .ok (.iadd, 1) := by decide +kernel
theorem dX10_shifts_34 : decode cX10_shifts 34 = .ok (.istore_n 1, 1) := by decide +kernel
theorem dX10_shifts_35 : decode cX10_shifts 35 = .ok (.iinc 2 1, 3) := by decide +kernel
theorem dX10_shifts_38 : decode cX10_shifts 38 = .ok (.goto (-34), 3) := by decide +kernel
theorem dX10_shifts_41 : decode cX10_shifts 41 = .ok (.iload_n 1, 1) := by decide +kernel
theorem dX10_shifts_42 : decode cX10_shifts 42 = .ok (.ireturn, 1) := by decide +kernel
set_option maxRecDepth 20000 in
theorem ggX10_home_X10_isAt : GoodIn wsX10_home wsX10_isAt := goodIn_r _ [7, 1, 2, 8, 9, 10, 11, 12, 13, 14, 15, 16, 17, 18, 19, 20, 21, 22, 23, 24, 25, 26, 27, 28, 29, 30, 31, 32, 33, 34, 35, 36, 37, 38, 39, 40, 41, 42, 43, 44] (by decide +kernel) (by decide +kernel)
set_option maxRecDepth 20000 in
theorem gX10_home_X10_isAt : GoodIn wsX10_home (wsV RX10 176 RX10 yX10_isAt wsX10_isAt) := goodIn_app (goodIn_of _ (by decide +kernel)) ggX10_home_X10_isAt
theorem dX10_home_0 : decode cX10_home 0 = .ok (.iconst 0, 1) := by decide +kernel
theorem dX10_home_1 : decode cX10_home 1 = .ok (.istore_n 1, 1) := by decide +kernel
theorem dX10_home_2 : decode cX10_home 2 = .ok (.iconst 1, 1) := by decide +kernel
theorem dX10_home_3 : decode cX10_home 3 = .ok (.istore_n 2, 1) := by decide +kernel
theorem dX10_home_4 : decode cX10_home 4 = .ok (.iload_n 2, 1) := by decide +kernel
theorem dX10_home_5 : decode cX10_home 5 = .ok (.bipush 10, 2) := by decide +kernel
theorem dX10_home_7 : decode cX10_home 7 = .ok (.if_icmp .gt 51, 3) := by decide +kernel
theorem dX10_home_10 : decode cX10_home 10 = .ok (.aload_n 0, 1) := by decide +kernel
theorem dX10_home_11 : decode cX10_home 11 = .ok (.iload_n 2, 1) := by decide +kernel
theorem dX10_home_12 : decode cX10_home 12 = .ok (.aload_n 0, 1) := by decide +kernel
theorem dX10_home_13 : decode cX10_home 13 = .ok (.getfield 53, 3) := by decide +kernel
theorem dX10_home_16 : decode cX10_home 16 = .ok (.iconst 0, 1) := by decide +kernel
theorem dX10_home_17 : decode cX10_home 17 = .ok (.iaload, 1) := by decide +kernel
theorem dX10_home_18 : decode cX10_home 18 = .ok (.aload_n 0, 1) := by decide +kernel
theorem dX10_home_19 : decode cX10_home 19 = .ok (.getfield 56, 3) := by decide +kernel
theorem dX10_home_22 : decode cX10_home 22 = .ok (.iconst 0, 1) := by decide +kernel
theorem dX10_home_23 : decode cX10_home 23 = .ok (.iaload, 1) := by decide +kernel
theorem dX10_home_24 : decode cX10_home 24 = .ok (.invokevirtual 176, 3) := by decide +kernel
theorem dX10_home_27 : decode cX10_home 27 = .ok (.istore_n 3, 1) := by decide +kernel
theorem dX10_home_28 : decode cX10_home 28 = .ok (.iload_n 3, 1) := by decide +kernel
theorem dX10_home_29 : decode cX10_home 29 = .ok (.ifCond .eq 9, 3) := by decide +kernel
theorem dX10_home_32 : decode cX10_home 32 = .ok (.iload_n 1, 1) := by decide +kernel
theorem dX10_home_33 : decode cX10_home 33 = .ok (.ifCond .eq 5, 3) := by decide +kernel
theorem dX10_home_36 : decode cX10_home 36 = .ok (.iload_n 2, 1) := by decide +kernel
theorem dX10_home_37 : decode cX10_home 37 = .ok (.ireturn, 1) := by decide +kernel
theorem dX10_home_38 : decode cX10_home 38 = .ok (.iload_n 1, 1) := by decide +kernel
theorem dX10_home_39 : decode cX10_home 39 = .ok (.ifCond .ne 7, 3) := by decide +kernel
theorem dX10_home_42 : decode cX10_home 42 = .ok (.iload_n 3, 1) := by decide +kernel
theorem dX10_home_43 : decode cX10_home 43 = .ok (.ifCond .ne 7, 3) := by decide +kernel
theorem dX10_home_46 : decode cX10_home 46 = .ok (.iconst 1, 1) := by decide +kernel
theorem dX10_home_47 : decode cX10_home 47 = .ok (.goto 4, 3) := by decide +kernel
theorem dX10_home_50 : decode cX10_home 50 = .ok (.iconst 0, 1) := by decide +kernel
theorem dX10_home_51 : decode cX10_home 51 = .ok (.istore_n 1, 1) := by decide +kernel
theorem dX10_home_52 : decode cX10_home 52 = .ok (.iinc 2 1, 3) := by decide +kernel
theorem dX10_home_55 : decode cX10_home 55 = .ok (.goto (-51), 3) := by decide +kernel
theorem dX10_home_58 : decode cX10_home 58 = .ok (.bipush (-9), 2) := by decide +kernel
theorem dX10_home_60 : decode cX10_home 60 = .ok (.ireturn, 1) := by decide +kernel
set_option maxRecDepth 20000 in
theorem ggX10_staff_X10_isDancer : GoodIn wsX10_staff wsX10_isDancer := goodIn_r _ [6, 7, 8, 9, 5, 10, 61, 62, 63, 64, 65, 66, 67, 68, 69, 70, 71, 72, 73, 74, 75, 76, 77, 78, 79, 80, 81, 82, 83, 84, 85, 86, 87, 88, 89, 90, 91, 92, 93, 94, 95, 96, 97] (by decide +kernel) (by decide +kernel)
set_option maxRecDepth 20000 in
theorem gX10_staff_X10_isDancer : GoodIn wsX10_staff (wsV RX10 169 RX10 yX10_isDancer wsX10_isDancer) := goodIn_app (goodIn_of _ (by decide +kernel)) ggX10_staff_X10_isDancer
set_option maxRecDepth 20000 in
theorem ggX10_staff_X10_in : GoodIn wsX10_staff wsX10_in := goodIn_r _ [10] (by decide +kernel) (by decide +kernel)
set_option maxRecDepth 20000 in
theorem gX10_staff_X10_in : GoodIn wsX10_staff (va_wsS RX10 74 yX10_in wsX10_in) := goodIn_app (goodIn_of _ (by decide +kernel)) ggX10_staff_X10_in
set_option maxRecDepth 20000 in
theorem ggX10_staff_X10_dances : GoodIn wsX10_staff wsX10_dances := goodIn_r _ [14, 15, 16, 17, 18, 19, 20, 21, 1, 22, 23, 24, 25, 26, 27, 28, 5, 29, 30, 31, 32, 33, 34, 35, 36, 37, 38, 39, 40, 41, 42, 43, 44, 8, 9, 10, 61, 62, 63, 64, 65, 66, 67, 68, 69, 70, 71, 72, 73, 74, 75, 76, 77, 78, 79, 80, 81, 82, 83, 84, 85, 86, 87, 88, 89, 90, 91, 92, 93, 94, 95, 96, 97] (by decide +kernel) (by decide +kernel)
set_option maxRecDepth 20000 in
theorem gX10_staff_X10_dances : GoodIn wsX10_staff (wsV RX10 172 RX10 yX10_dances wsX10_dances) := goodIn_app (goodIn_of _ (by decide +kernel)) ggX10_staff_X10_dances
set_option maxRecDepth 20000 in
theorem ggX10_staff_X10_sizeOf : GoodIn wsX10_staff wsX10_sizeOf := goodIn_r _ [29, 30, 61, 62, 63, 64, 65, 66, 67, 68, 69, 70, 71, 72, 73, 74, 75, 76, 77, 78, 79, 80, 81, 82, 83, 84, 85, 86, 87, 88, 89, 90, 91, 92, 93, 94, 95, 96, 97] (by decide +kernel) (by decide +kernel)
set_option maxRecDepth 20000 in
theorem gX10_staff_X10_sizeOf : GoodIn wsX10_staff (wsV RX10 158 RX10 yX10_sizeOf wsX10_sizeOf) := goodIn_app (goodIn_of _ (by decide +kernel)) ggX10_staff_X10_sizeOf
set_option maxRecDepth 20000 in
theorem ggX10_staff_X10_span : GoodIn wsX10_staff wsX10_span := goodIn_r _ [48, 15, 17, 49, 50, 51, 5, 52, 61, 62, 63, 64, 65, 66, 67, 68, 69, 70, 71, 72, 73, 74, 75, 76, 77, 78, 79, 80, 81, 82, 83, 84, 85, 86, 87, 88, 89, 90, 91, 92, 93, 94, 95, 96, 97] (by decide +kernel) (by decide +kernel)
set_option maxRecDepth 20000 in
theorem gX10_staff_X10_span : GoodIn wsX10_staff (wsV RX10 179 RX10 yX10_span wsX10_span) := goodIn_app (goodIn_of _ (by decide +kernel)) ggX10_staff_X10_span
set_option maxRecDepth 20000 in
theorem ggX10_staff_X10_shifts : GoodIn wsX10_staff wsX10_shifts := goodIn_r _ [56, 21, 61, 62, 63, 64, 65, 66, 67, 68, 69, 70, 71, 72, 73, 74, 75, 76, 77, 78, 79, 80, 81, 82, 83, 84, 85, 86, 87, 88, 89, 90, 91, 92, 93, 94, 95, 96, 97] (by decide +kernel) (by decide +kernel)
set_option maxRecDepth 20000 in
theorem gX10_staff_X10_shifts : GoodIn wsX10_staff (wsV RX10 183 RX10 yX10_shifts wsX10_shifts) := goodIn_app (goodIn_of _ (by decide +kernel)) ggX10_staff_X10_shifts
set_option maxRecDepth 20000 in
theorem ggX10_staff_X10_home : GoodIn wsX10_staff wsX10_home := goodIn_r _ [60, 15, 17, 49, 50, 51, 5, 52, 61, 62, 63, 64, 65, 66, 67, 68, 69, 70, 71, 72, 73, 74, 75, 76, 77, 78, 79, 80, 81, 82, 83, 84, 85, 86, 87, 88, 89, 90, 91, 92, 93, 94, 95, 96, 97] (by decide +kernel) (by decide +kernel)
set_option maxRecDepth 20000 in
theorem gX10_staff_X10_home : GoodIn wsX10_staff (wsV RX10 186 RX10 yX10_home wsX10_home) := goodIn_app (goodIn_of _ (by decide +kernel)) ggX10_staff_X10_home
theorem dX10_staff_0 : decode cX10_staff 0 = .ok (.aload_n 0, 1) := by decide +kernel
theorem dX10_staff_1 : decode cX10_staff 1 = .ok (.iload_n 1, 1) := by decide +kernel
theorem dX10_staff_2 : decode cX10_staff 2 = .ok (.invokevirtual 169, 3) := by decide +kernel
theorem dX10_staff_5 : decode cX10_staff 5 = .ok (.ifCond .eq 12, 3) := by decide +kernel
theorem dX10_staff_8 : decode cX10_staff 8 = .ok (.iload_n 2, 1) := by decide +kernel
theorem dX10_staff_9 : decode cX10_staff 9 = .ok (.iconst 0, 1) := by decide +kernel
theorem dX10_staff_10 : decode cX10_staff 10 = .ok (.iconst 4, 1) := by decide +kernel
theorem dX10_staff_11 : decode cX10_staff 11 = .ok (.invokestatic 74, 3) := by decide +kernel
theorem dX10_staff_14 : decode cX10_staff 14 = .ok (.ifCond .ne 5, 3) := by decide +kernel
theorem dX10_staff_17 : decode cX10_staff 17 = .ok (.iconst (-1), 1) := by decide +kernel
theorem dX10_staff_18 : decode cX10_staff 18 = .ok (.ireturn, 1) := by decide +kernel
theorem dX10_staff_19 : decode cX10_staff 19 = .ok (.aload_n 0, 1) := by decide +kernel
theorem dX10_staff_20 : decode cX10_staff 20 = .ok (.iload_n 1, 1) := by decide +kernel
theorem dX10_staff_21 : decode cX10_staff 21 = .ok (.bipush (-9), 2) := by decide +kernel
theorem dX10_staff_23 : decode cX10_staff 23 = .ok (.invokevirtual 172, 3) := by decide +kernel
theorem dX10_staff_26 : decode cX10_staff 26 = .ok (.iload_n 2, 1) := by decide +kernel
theorem dX10_staff_27 : decode cX10_staff 27 = .ok (.tableswitch 50 0 3 #[29, 35, 40, 45], 29) := by decide +kernel
theorem dX10_staff_56 : decode cX10_staff 56 = .ok (.aload_n 0, 1) := by decide +kernel
theorem dX10_staff_57 : decode cX10_staff 57 = .ok (.iload_n 1, 1) := by decide +kernel
theorem dX10_staff_58 : decode cX10_staff 58 = .ok (.invokevirtual 158, 3) := by decide +kernel
theorem dX10_staff_61 : decode cX10_staff 61 = .ok (.ireturn, 1) := by decide +kernel
theorem dX10_staff_62 : decode cX10_staff 62 = .ok (.aload_n 0, 1) := by decide +kernel
theorem dX10_staff_63 : decode cX10_staff 63 = .ok (.getfield 155, 3) := by decide +kernel
theorem dX10_staff_66 : decode cX10_staff 66 = .ok (.ireturn, 1) := by decide +kernel
theorem dX10_staff_67 : decode cX10_staff 67 = .ok (.aload_n 0, 1) := by decide +kernel
theorem dX10_staff_68 : decode cX10_staff 68 = .ok (.invokevirtual 179, 3) := by decide +kernel
theorem dX10_staff_71 : decode cX10_staff 71 = .ok (.ireturn, 1) := by decide +kernel
theorem dX10_staff_72 : decode cX10_staff 72 = .ok (.aload_n 0, 1) := by decide +kernel
theorem dX10_staff_73 : decode cX10_staff 73 = .ok (.invokevirtual 183, 3) := by decide +kernel
theorem dX10_staff_76 : decode cX10_staff 76 = .ok (.ireturn, 1) := by decide +kernel
theorem dX10_staff_77 : decode cX10_staff 77 = .ok (.aload_n 0, 1) := by decide +kernel
theorem dX10_staff_78 : decode cX10_staff 78 = .ok (.invokevirtual 186, 3) := by decide +kernel
theorem dX10_staff_81 : decode cX10_staff 81 = .ok (.ireturn, 1) := by decide +kernel
theorem dX10_remember_0 : decode cX10_remember 0 = .ok (.iconst 0, 1) := by decide +kernel
theorem dX10_remember_1 : decode cX10_remember 1 = .ok (.istore_n 1, 1) := by decide +kernel
theorem dX10_remember_2 : decode cX10_remember 2 = .ok (.iload_n 1, 1) := by decide +kernel
theorem dX10_remember_3 : decode cX10_remember 3 = .ok (.bipush 33, 2) := by decide +kernel
theorem dX10_remember_5 : decode cX10_remember 5 = .ok (.if_icmp .ge 29, 3) := by decide +kernel
theorem dX10_remember_8 : decode cX10_remember 8 = .ok (.aload_n 0, 1) := by decide +kernel
theorem dX10_remember_9 : decode cX10_remember 9 = .ok (.getfield 22, 3) := by decide +kernel
theorem dX10_remember_12 : decode cX10_remember 12 = .ok (.bipush 33, 2) := by decide +kernel
theorem dX10_remember_14 : decode cX10_remember 14 = .ok (.aload_n 0, 1) := by decide +kernel
theorem dX10_remember_15 : decode cX10_remember 15 = .ok (.getfield 189, 3) := by decide +kernel
theorem dX10_remember_18 : decode cX10_remember 18 = .ok (.imul, 1) := by decide +kernel
theorem dX10_remember_19 : decode cX10_remember 19 = .ok (.iload_n 1, 1) := by decide +kernel
theorem dX10_remember_20 : decode cX10_remember 20 = .ok (.iadd, 1) := by decide +kernel
theorem dX10_remember_21 : decode cX10_remember 21 = .ok (.aload_n 0, 1) := by decide +kernel
theorem dX10_remember_22 : decode cX10_remember 22 = .ok (.getfield 19, 3) := by decide +kernel
theorem dX10_remember_25 : decode cX10_remember 25 = .ok (.iload_n 1, 1) := by decide +kernel
theorem dX10_remember_26 : decode cX10_remember 26 = .ok (.iaload, 1) := by decide +kernel
theorem dX10_remember_27 : decode cX10_remember 27 = .ok (.iastore, 1) := by decide +kernel
theorem dX10_remember_28 : decode cX10_remember 28 = .ok (.iinc 1 1, 3) := by decide +kernel
theorem dX10_remember_31 : decode cX10_remember 31 = .ok (.goto (-29), 3) := by decide +kernel
theorem dX10_remember_34 : decode cX10_remember 34 = .ok (.aload_n 0, 1) := by decide +kernel
theorem dX10_remember_35 : decode cX10_remember 35 = .ok (.aload_n 0, 1) := by decide +kernel
theorem dX10_remember_36 : decode cX10_remember 36 = .ok (.getfield 189, 3) := by decide +kernel
theorem dX10_remember_39 : decode cX10_remember 39 = .ok (.iconst 1, 1) := by decide +kernel
theorem dX10_remember_40 : decode cX10_remember 40 = .ok (.iadd, 1) := by decide +kernel
theorem dX10_remember_41 : decode cX10_remember 41 = .ok (.bipush 10, 2) := by decide +kernel
theorem dX10_remember_43 : decode cX10_remember 43 = .ok (.irem, 1) := by decide +kernel
theorem dX10_remember_44 : decode cX10_remember 44 = .ok (.putfield 189, 3) := by decide +kernel
theorem dX10_remember_47 : decode cX10_remember 47 = .ok (.aload_n 0, 1) := by decide +kernel
theorem dX10_remember_48 : decode cX10_remember 48 = .ok (.dup, 1) := by decide +kernel
theorem dX10_remember_49 : decode cX10_remember 49 = .ok (.getfield 130, 3) := by decide +kernel
theorem dX10_remember_52 : decode cX10_remember 52 = .ok (.aload_n 0, 1) := by decide +kernel
theorem dX10_remember_53 : decode cX10_remember 53 = .ok (.getfield 130, 3) := by decide +kernel
theorem dX10_remember_56 : decode cX10_remember 56 = .ok (.bipush 10, 2) := by decide +kernel
theorem dX10_remember_58 : decode cX10_remember 58 = .ok (.if_icmp .ge 7, 3) := by decide +kernel
theorem dX10_remember_61 : decode cX10_remember 61 = .ok (.iconst 1, 1) := by decide +kernel
theorem dX10_remember_62 : decode cX10_remember 62 = .ok (.goto 4, 3) := by decide +kernel
theorem dX10_remember_65 : decode cX10_remember 65 = .ok (.iconst 0, 1) := by decide +kernel
theorem dX10_remember_66 : decode cX10_remember 66 = .ok (.iadd, 1) := by decide +kernel
theorem dX10_remember_67 : decode cX10_remember 67 = .ok (.putfield 130, 3) := by decide +kernel
theorem dX10_remember_70 : decode cX10_remember 70 = .ok (.return_, 1) := by decide +kernel
theorem dX10_mirrored_0 : decode cX10_mirrored 0 = .ok (.iload_n 0, 1) := by decide +kernel
theorem dX10_mirrored_1 : decode cX10_mirrored 1 = .ok (.bipush 26, 2) := by decide +kernel
theorem dX10_mirrored_3 : decode cX10_mirrored 3 = .ok (.if_icmp .lt 13, 3) := by decide +kernel
theorem dX10_mirrored_6 : decode cX10_mirrored 6 = .ok (.bipush 33, 2) := by decide +kernel
theorem dX10_mirrored_8 : decode cX10_mirrored 8 = .ok (.iload_n 0, 1) := by decide +kernel
theorem dX10_mirrored_9 : decode cX10_mirrored 9 = .ok (.bipush 26, 2) := by decide +kernel
theorem dX10_mirrored_11 : decode cX10_mirrored 11 = .ok (.isub, 1) := by decide +kernel
theorem dX10_mirrored_12 : decode cX10_mirrored 12 = .ok (.iconst 1, 1) := by decide +kernel
theorem dX10_mirrored_13 : decode cX10_mirrored 13 = .ok (.iadd, 1) := by decide +kernel
theorem dX10_mirrored_14 : decode cX10_mirrored 14 = .ok (.isub, 1) := by decide +kernel
theorem dX10_mirrored_15 : decode cX10_mirrored 15 = .ok (.ireturn, 1) := by decide +kernel
theorem dX10_mirrored_16 : decode cX10_mirrored 16 = .ok (.iload_n 0, 1) := by decide +kernel
theorem dX10_mirrored_17 : decode cX10_mirrored 17 = .ok (.iconst 2, 1) := by decide +kernel
theorem dX10_mirrored_18 : decode cX10_mirrored 18 = .ok (.if_icmp .ge 5, 3) := by decide +kernel
theorem dX10_mirrored_21 : decode cX10_mirrored 21 = .ok (.iload_n 0, 1) := by decide +kernel
theorem dX10_mirrored_22 : decode cX10_mirrored 22 = .ok (.ireturn, 1) := by decide +kernel
theorem dX10_mirrored_23 : decode cX10_mirrored 23 = .ok (.iload_n 0, 1) := by decide +kernel
theorem dX10_mirrored_24 : decode cX10_mirrored 24 = .ok (.iconst 2, 1) := by decide +kernel
theorem dX10_mirrored_25 : decode cX10_mirrored 25 = .ok (.isub, 1) := by decide +kernel
theorem dX10_mirrored_26 : decode cX10_mirrored 26 = .ok (.bipush 8, 2) := by decide +kernel
theorem dX10_mirrored_28 : decode cX10_mirrored 28 = .ok (.idiv, 1) := by decide +kernel
theorem dX10_mirrored_29 : decode cX10_mirrored 29 = .ok (.istore_n 1, 1) := by decide +kernel
theorem dX10_mirrored_30 : decode cX10_mirrored 30 = .ok (.bipush 8, 2) := by decide +kernel
theorem dX10_mirrored_32 : decode cX10_mirrored 32 = .ok (.iload_n 0, 1) := by decide +kernel
theorem dX10_mirrored_33 : decode cX10_mirrored 33 = .ok (.iconst 2, 1) := by decide +kernel
theorem dX10_mirrored_34 : decode cX10_mirrored 34 = .ok (.isub, 1) := by decide +kernel
theorem dX10_mirrored_35 : decode cX10_mirrored 35 = .ok (.bipush 8, 2) := by decide +kernel
theorem dX10_mirrored_37 : decode cX10_mirrored 37 = .ok (.irem, 1) := by decide +kernel
theorem dX10_mirrored_38 : decode cX10_mirrored 38 = .ok (.isub, 1) := by decide +kernel
theorem dX10_mirrored_39 : decode cX10_mirrored 39 = .ok (.bipush 8, 2) := by decide +kernel
theorem dX10_mirrored_41 : decode cX10_mirrored 41 = .ok (.irem, 1) := by decide +kernel
theorem dX10_mirrored_42 : decode cX10_mirrored 42 = .ok (.istore_n 2, 1) := by decide +kernel
theorem dX10_mirrored_43 : decode cX10_mirrored 43 = .ok (.iload_n 1, 1) := by decide +kernel
theorem dX10_mirrored_44 : decode cX10_mirrored 44 = .ok (.ifCond .ne 8, 3) := by decide +kernel
theorem dX10_mirrored_47 : decode cX10_mirrored 47 = .ok (.bipush 10, 2) := by decide +kernel
theorem dX10_mirrored_49 : decode cX10_mirrored 49 = .ok (.goto 14, 3) := by decide +kernel
theorem dX10_mirrored_52 : decode cX10_mirrored 52 = .ok (.iload_n 1, 1) := by decide +kernel
theorem dX10_mirrored_53 : decode cX10_mirrored 53 = .ok (.iconst 1, 1) := by decide +kernel
theorem dX10_mirrored_54 : decode cX10_mirrored 54 = .ok (.if_icmp .ne 7, 3) := by decide +kernel
theorem dX10_mirrored_57 : decode cX10_mirrored 57 = .ok (.iconst 2, 1) := by decide +kernel
theorem dX10_mirrored_58 : decode cX10_mirrored 58 = .ok (.goto 5, 3) := by decide +kernel
theorem dX10_mirrored_61 : decode cX10_mirrored 61 = .ok (.bipush 18, 2) := by decide +kernel
theorem dX10_mirrored_63 : decode cX10_mirrored 63 = .ok (.iload_n 2, 1) := by decide +kernel
theorem dX10_mirrored_64 : decode cX10_mirrored 64 = .ok (.iadd, 1) := by decide +kernel
theorem dX10_mirrored_65 : decode cX10_mirrored 65 = .ok (.ireturn, 1) := by decide +kernel
set_option maxRecDepth 20000 in
theorem ggX10_mirrors_X10_isDancer : GoodIn wsX10_mirrors wsX10_isDancer := goodIn_r _ [6, 7, 8, 9, 5, 10, 29, 30, 31, 32, 33, 34, 35, 36, 37, 38, 39, 40, 41, 42, 43, 44, 45, 46, 47, 48, 49, 50, 51, 52, 53, 54, 55, 56, 57, 58, 59, 60, 61, 62, 63, 64, 65] (by decide +kernel) (by decide +kernel)
set_option maxRecDepth 20000 in
theorem gX10_mirrors_X10_isDancer : GoodIn wsX10_mirrors (wsV RX10 169 RX10 yX10_isDancer wsX10_isDancer) := goodIn_app (goodIn_of _ (by decide +kernel)) ggX10_mirrors_X10_isDancer
set_option maxRecDepth 20000 in
theorem ggX10_mirrors_X10_remember : GoodIn wsX10_mirrors wsX10_remember := goodIn_r _ [14, 15, 16, 1, 17, 29, 30, 31, 32, 33, 34, 35, 36, 37, 38, 39, 40, 41, 42, 43, 44, 45, 46, 47, 48, 49, 50, 51, 52, 53, 54, 55, 56, 57, 58, 59, 60, 61, 62, 63, 64, 65] (by decide +kernel) (by decide +kernel)
set_option maxRecDepth 20000 in
theorem gX10_mirrors_X10_remember : GoodIn wsX10_mirrors (wsV RX10 192 RX10 yX10_remember wsX10_remember) := goodIn_app (goodIn_of _ (by decide +kernel)) ggX10_mirrors_X10_remember
set_option maxRecDepth 20000 in
theorem ggX10_mirrors_X10_sizeOf : GoodIn wsX10_mirrors wsX10_sizeOf := goodIn_r _ [21, 1, 29, 30, 31, 32, 33, 34, 35, 36, 37, 38, 39, 40, 41, 42, 43, 44, 45, 46, 47, 48, 49, 50, 51, 52, 53, 54, 55, 56, 57, 58, 59, 60, 61, 62, 63, 64, 65] (by decide +kernel) (by decide +kernel)
set_option maxRecDepth 20000 in
theorem gX10_mirrors_X10_sizeOf : GoodIn wsX10_mirrors (wsV RX10 158 RX10 yX10_sizeOf wsX10_sizeOf) := goodIn_app (goodIn_of _ (by decide +kernel)) ggX10_mirrors_X10_sizeOf
set_option maxRecDepth 20000 in
theorem ggX10_mirrors_X10_signOf : GoodIn wsX10_mirrors wsX10_signOf := goodIn_r _ [25, 1, 29, 30, 31, 32, 33, 34, 35, 36, 37, 38, 39, 40, 41, 42, 43, 44, 45, 46, 47, 48, 49, 50, 51, 52, 53, 54, 55, 56, 57, 58, 59, 60, 61, 62, 63, 64, 65] (by decide +kernel) (by decide +kernel)
set_option maxRecDepth 20000 in
theorem gX10_mirrors_X10_signOf : GoodIn wsX10_mirrors (wsV RX10 161 RX10 yX10_signOf wsX10_signOf) := goodIn_app (goodIn_of _ (by decide +kernel)) ggX10_mirrors_X10_signOf
set_option maxRecDepth 20000 in
theorem ggX10_mirrors_X10_mirrored : GoodIn wsX10_mirrors wsX10_mirrored := goodIn_r _ [28] (by decide +kernel) (by decide +kernel)
set_option maxRecDepth 20000 in
theorem gX10_mirrors_X10_mirrored : GoodIn wsX10_mirrors (va_wsS RX10 195 yX10_mirrored wsX10_mirrored) := goodIn_app (goodIn_of _ (by decide +kernel)) ggX10_mirrors_X10_mirrored
theorem dX10_mirrors_0 : decode cX10_mirrors 0 = .ok (.aload_n 0, 1) := by decide +kernel
theorem dX10_mirrors_1 : decode cX10_mirrors 1 = .ok (.iload_n 1, 1) := by decide +kernel
theorem dX10_mirrors_2 : decode cX10_mirrors 2 = .ok (.invokevirtual 169, 3) := by decide +kernel
theorem dX10_mirrors_5 : decode cX10_mirrors 5 = .ok (.ifCond .ne 5, 3) := by decide +kernel
theorem dX10_mirrors_8 : decode cX10_mirrors 8 = .ok (.iconst (-1), 1) := by decide +kernel
theorem dX10_mirrors_9 : decode cX10_mirrors 9 = .ok (.ireturn, 1) := by decide +kernel
theorem dX10_mirrors_10 : decode cX10_mirrors 10 = .ok (.aload_n 0, 1) := by decide +kernel
theorem dX10_mirrors_11 : decode cX10_mirrors 11 = .ok (.invokevirtual 192, 3) := by decide +kernel
theorem dX10_mirrors_14 : decode cX10_mirrors 14 = .ok (.iconst 0, 1) := by decide +kernel
theorem dX10_mirrors_15 : decode cX10_mirrors 15 = .ok (.istore_n 2, 1) := by decide +kernel
theorem dX10_mirrors_16 : decode cX10_mirrors 16 = .ok (.iload_n 2, 1) := by decide +kernel
theorem dX10_mirrors_17 : decode cX10_mirrors 17 = .ok (.aload_n 0, 1) := by decide +kernel
theorem dX10_mirrors_18 : decode cX10_mirrors 18 = .ok (.iload_n 1, 1) := by decide +kernel
theorem dX10_mirrors_19 : decode cX10_mirrors 19 = .ok (.invokevirtual 158, 3) := by decide +kernel
theorem dX10_mirrors_22 : decode cX10_mirrors 22 = .ok (.if_icmp .ge 31, 3) := by decide +kernel
theorem dX10_mirrors_25 : decode cX10_mirrors 25 = .ok (.aload_n 0, 1) := by decide +kernel
theorem dX10_mirrors_26 : decode cX10_mirrors 26 = .ok (.getfield 19, 3) := by decide +kernel
theorem dX10_mirrors_29 : decode cX10_mirrors 29 = .ok (.bipush 11, 2) := by decide +kernel
theorem dX10_mirrors_31 : decode cX10_mirrors 31 = .ok (.iload_n 1, 1) := by decide +kernel
theorem dX10_mirrors_32 : decode cX10_mirrors 32 = .ok (.imul, 1) := by decide +kernel
theorem dX10_mirrors_33 : decode cX10_mirrors 33 = .ok (.iconst 1, 1) := by decide +kernel
theorem dX10_mirrors_34 : decode cX10_mirrors 34 = .ok (.iadd, 1) := by decide +kernel
theorem dX10_mirrors_35 : decode cX10_mirrors 35 = .ok (.iload_n 2, 1) := by decide +kernel
theorem dX10_mirrors_36 : decode cX10_mirrors 36 = .ok (.iadd, 1) := by decide +kernel
theorem dX10_mirrors_37 : decode cX10_mirrors 37 = .ok (.aload_n 0, 1) := by decide +kernel
theorem dX10_mirrors_38 : decode cX10_mirrors 38 = .ok (.iload_n 1, 1) := by decide +kernel
theorem dX10_mirrors_39 : decode cX10_mirrors 39 = .ok (.iload_n 2, 1) := by decide +kernel
theorem dX10_mirrors_40 : decode cX10_mirrors 40 = .ok (.invokevirtual 161, 3) := by decide +kernel
theorem dX10_mirrors_43 : decode cX10_mirrors 43 = .ok (.invokestatic 195, 3) := by decide +kernel
theorem dX10_mirrors_46 : decode cX10_mirrors 46 = .ok (.iastore, 1) := by decide +kernel
theorem dX10_mirrors_47 : decode cX10_mirrors 47 = .ok (.iinc 2 1, 3) := by decide +kernel
theorem dX10_mirrors_50 : decode cX10_mirrors 50 = .ok (.goto (-34), 3) := by decide +kernel
theorem dX10_mirrors_53 : decode cX10_mirrors 53 = .ok (.aload_n 0, 1) := by decide +kernel
theorem dX10_mirrors_54 : decode cX10_mirrors 54 = .ok (.iload_n 1, 1) := by decide +kernel
theorem dX10_mirrors_55 : decode cX10_mirrors 55 = .ok (.invokevirtual 158, 3) := by decide +kernel
theorem dX10_mirrors_58 : decode cX10_mirrors 58 = .ok (.ireturn, 1) := by decide +kernel
set_option maxRecDepth 20000 in
theorem ggX10_canons_X10_isDancer : GoodIn wsX10_canons wsX10_isDancer := goodIn_r _ [6, 7, 8, 9, 5, 10, 26, 27, 28, 29, 30, 31, 32, 33, 34, 35, 36, 37, 38, 39, 40, 41, 42, 43, 44, 45, 46, 47, 48, 49, 50, 51, 52, 53, 54, 55, 56, 57, 58, 59, 60, 61, 62] (by decide +kernel) (by decide +kernel)
set_option maxRecDepth 20000 in
theorem gX10_canons_X10_isDancer : GoodIn wsX10_canons (wsV RX10 169 RX10 yX10_isDancer wsX10_isDancer) := goodIn_app (goodIn_of _ (by decide +kernel)) ggX10_canons_X10_isDancer
set_option maxRecDepth 20000 in
theorem ggX10_canons_X10_in : GoodIn wsX10_canons wsX10_in := goodIn_r _ [10] (by decide +kernel) (by decide +kernel)
set_option maxRecDepth 20000 in
theorem gX10_canons_X10_in : GoodIn wsX10_canons (va_wsS RX10 74 yX10_in wsX10_in) := goodIn_app (goodIn_of _ (by decide +kernel)) ggX10_canons_X10_in
set_option maxRecDepth 20000 in
theorem ggX10_canons_X10_remember : GoodIn wsX10_canons wsX10_remember := goodIn_r _ [14, 15, 16, 1, 17, 26, 27, 28, 29, 30, 31, 32, 33, 34, 35, 36, 37, 38, 39, 40, 41, 42, 43, 44, 45, 46, 47, 48, 49, 50, 51, 52, 53, 54, 55, 56, 57, 58, 59, 60, 61, 62] (by decide +kernel) (by decide +kernel)
set_option maxRecDepth 20000 in
theorem gX10_canons_X10_remember : GoodIn wsX10_canons (wsV RX10 192 RX10 yX10_remember wsX10_remember) := goodIn_app (goodIn_of _ (by decide +kernel)) ggX10_canons_X10_remember
set_option maxRecDepth 20000 in
theorem ggX10_canons_X10_sizeOf : GoodIn wsX10_canons wsX10_sizeOf := goodIn_r _ [21, 1, 26, 27, 28, 29, 30, 31, 32, 33, 34, 35, 36, 37, 38, 39, 40, 41, 42, 43, 44, 45, 46, 47, 48, 49, 50, 51, 52, 53, 54, 55, 56, 57, 58, 59, 60, 61, 62] (by decide +kernel) (by decide +kernel)
set_option maxRecDepth 20000 in
theorem gX10_canons_X10_sizeOf : GoodIn wsX10_canons (wsV RX10 158 RX10 yX10_sizeOf wsX10_sizeOf) := goodIn_app (goodIn_of _ (by decide +kernel)) ggX10_canons_X10_sizeOf
set_option maxRecDepth 20000 in
theorem ggX10_canons_X10_signOf : GoodIn wsX10_canons wsX10_signOf := goodIn_r _ [25, 1, 26, 27, 28, 29, 30, 31, 32, 33, 34, 35, 36, 37, 38, 39, 40, 41, 42, 43, 44, 45, 46, 47, 48, 49, 50, 51, 52, 53, 54, 55, 56, 57, 58, 59, 60, 61, 62] (by decide +kernel) (by decide +kernel)
set_option maxRecDepth 20000 in
theorem gX10_canons_X10_signOf : GoodIn wsX10_canons (wsV RX10 161 RX10 yX10_signOf wsX10_signOf) := goodIn_app (goodIn_of _ (by decide +kernel)) ggX10_canons_X10_signOf
theorem dX10_canons_0 : decode cX10_canons 0 = .ok (.aload_n 0, 1) := by decide +kernel
theorem dX10_canons_1 : decode cX10_canons 1 = .ok (.iload_n 1, 1) := by decide +kernel
theorem dX10_canons_2 : decode cX10_canons 2 = .ok (.invokevirtual 169, 3) := by decide +kernel
theorem dX10_canons_5 : decode cX10_canons 5 = .ok (.ifCond .eq 25, 3) := by decide +kernel
theorem dX10_canons_8 : decode cX10_canons 8 = .ok (.aload_n 0, 1) := by decide +kernel
theorem dX10_canons_9 : decode cX10_canons 9 = .ok (.iload_n 2, 1) := by decide +kernel
theorem dX10_canons_10 : decode cX10_canons 10 = .ok (.invokevirtual 169, 3) := by decide +kernel
theorem dX10_canons_13 : decode cX10_canons 13 = .ok (.ifCond .eq 17, 3) := by decide +kernel
theorem dX10_canons_16 : decode cX10_canons 16 = .ok (.iload_n 1, 1) := by decide +kernel
theorem dX10_canons_17 : decode cX10_canons 17 = .ok (.iload_n 2, 1) := by decide +kernel
theorem dX10_canons_18 : decode cX10_canons 18 = .ok (.if_icmp .eq 12, 3) := by decide +kernel
theorem dX10_canons_21 : decode cX10_canons 21 = .ok (.iload_n 3, 1) := by decide +kernel
theorem dX10_canons_22 : decode cX10_canons 22 = .ok (.iconst 0, 1) := by decide +kernel
theorem dX10_canons_23 : decode cX10_canons 23 = .ok (.iconst 4, 1) := by decide +kernel
theorem dX10_canons_24 : decode cX10_canons 24 = .ok (.invokestatic 74, 3) := by decide +kernel
theorem dX10_canons_27 : decode cX10_canons 27 = .ok (.ifCond .ne 5, 3) := by decide +kernel
theorem dX10_canons_30 : decode cX10_canons 30 = .ok (.iconst (-1), 1) := by decide +kernel
theorem dX10_canons_31 : decode cX10_canons 31 = .ok (.ireturn, 1) := by decide +kernel
theorem dX10_canons_32 : decode cX10_canons 32 = .ok (.aload_n 0, 1) := by decide +kernel
theorem dX10_canons_33 : decode cX10_canons 33 = .ok (.invokevirtual 192, 3) := by decide +kernel
theorem dX10_canons_36 : decode cX10_canons 36 = .ok (.aload_n 0, 1) := by decide +kernel
theorem dX10_canons_37 : decode cX10_canons 37 = .ok (.iload_n 2, 1) := by decide +kernel
theorem dX10_canons_38 : decode cX10_canons 38 = .ok (.invokevirtual 158, 3) := by decide +kernel
theorem dX10_canons_41 : decode cX10_canons 41 = .ok (.iload_n 3, 1) := by decide +kernel
theorem dX10_canons_42 : decode cX10_canons 42 = .ok (.iadd, 1) := by decide +kernel
theorem dX10_canons_43 : decode cX10_canons 43 = .ok (.bipush 10, 2) := by decide +kernel
theorem dX10_canons_45 : decode cX10_canons 45 = .ok (.if_icmp .le 8, 3) := by decide +kernel
theorem dX10_canons_48 : decode cX10_canons 48 = .ok (.bipush 10, 2) := by decide +kernel
theorem dX10_canons_50 : decode cX10_canons 50 = .ok (.goto 10, 3) := by decide +kernel
theorem dX10_canons_53 : decode cX10_canons 53 = .ok (.aload_n 0, 1) := by decide +kernel
theorem dX10_canons_54 : decode cX10_canons 54 = .ok (.iload_n 2, 1) := by decide +kernel
theorem dX10_canons_55 : decode cX10_canons 55 = .ok (.invokevirtual 158, 3) := by decide +kernel
theorem dX10_canons_58 : decode cX10_canons 58 = .ok (.iload_n 3, 1) := by decide +kernel
theorem dX10_canons_59 : decode cX10_canons 59 = .ok (.iadd, 1) := by decide +kernel
theorem dX10_canons_60 : decode cX10_canons 60 = .ok (.istore 4, 2) := by decide +kernel
theorem dX10_canons_62 : decode cX10_canons 62 = .ok (.iconst 0, 1) := by decide +kernel
theorem dX10_canons_63 : decode cX10_canons 63 = .ok (.istore 5, 2) := by decide +kernel
theorem dX10_canons_65 : decode cX10_canons 65 = .ok (.iload 5, 2) := by decide +kernel
theorem dX10_canons_67 : decode cX10_canons 67 = .ok (.bipush 10, 2) := by decide +kernel
theorem dX10_canons_69 : decode cX10_canons 69 = .ok (.if_icmp .ge 49, 3) := by decide +kernel
theorem dX10_canons_72 : decode cX10_canons 72 = .ok (.aload_n 0, 1) := by decide +kernel
theorem dX10_canons_73 : decode cX10_canons 73 = .ok (.getfield 19, 3) := by decide +kernel
theorem dX10_canons_76 : decode cX10_canons 76 = .ok (.bipush 11, 2) := by decide +kernel
theorem dX10_canons_78 : decode cX10_canons 78 = .ok (.iload_n 1, 1) := by decide +kernel
theorem dX10_canons_79 : decode cX10_canons 79 = .ok (.imul, 1) := by decide +kernel
theorem dX10_canons_80 : decode cX10_canons 80 = .ok (.iconst 1, 1) := by decide +kernel
theorem dX10_canons_81 : decode cX10_canons 81 = .ok (.iadd, 1) := by decide +kernel
theorem dX10_canons_82 : decode cX10_canons 82 = .ok (.iload 5, 2) := by decide +kernel
theorem dX10_canons_84 : decode cX10_canons 84 = .ok (.iadd, 1) := by decide +kernel
theorem dX10_canons_85 : decode cX10_canons 85 = .ok (.iload 5, 2) := by decide +kernel
theorem dX10_canons_87 : decode cX10_canons 87 = .ok (.iload_n 3, 1) := by decide +kernel
theorem dX10_canons_88 : decode cX10_canons 88 = .ok (.if_icmp .lt 10, 3) := by decide +kernel
theorem dX10_canons_91 : decode cX10_canons 91 = .ok (.iload 5, 2) := by decide +kernel
theorem dX10_canons_93 : decode cX10_canons 93 = .ok (.iload 4, 2) := by decide +kernel
theorem dX10_canons_95 : decode cX10_canons 95 = .ok (.if_icmp .lt 7, 3) := by decide +kernel
theorem dX10_canons_98 : decode cX10_canons 98 = .ok (.iconst 0, 1) := by decide +kernel
theorem dX10_canons_99 : decode cX10_canons 99 = .ok (.goto 12, 3) := by decide +kernel
theorem dX10_canons_102 : decode cX10_canons 102 = .ok (.aload_n 0, 1) := by decide +kernel
theorem dX10_canons_103 : decode cX10_canons 103 = .ok (.iload_n 2, 1) := by decide +kernel
theorem dX10_canons_104 : decode cX10_canons 104 = .ok (.iload 5, 2) := by decide +kernel
theorem dX10_canons_106 : decode cX10_canons 106 = .ok (.iload_n 3, 1) := by decide +kernel
theorem dX10_canons_107 : decode cX10_canons 107 = .ok (.isub, 1) := by decide +kernel
theorem dX10_canons_108 : decode cX10_canons 108 = .ok (.invokevirtual 161, 3) := by decide +kernel
theorem dX10_canons_111 : decode cX10_canons 111 = .ok (.iastore, 1) := by decide +kernel
theorem dX10_canons_112 : decode cX10_canons 112 = .ok (.iinc 5 1, 3) := by decide +kernel
theorem dX10_canons_115 : decode cX10_canons 115 = .ok (.goto (-50), 3) := by decide +kernel
theorem dX10_canons_118 : decode cX10_canons 118 = .ok (.aload_n 0, 1) := by decide +kernel
theorem dX10_canons_119 : decode cX10_canons 119 = .ok (.getfield 19, 3) := by decide +kernel
theorem dX10_canons_122 : decode cX10_canons 122 = .ok (.bipush 11, 2) := by decide +kernel
theorem dX10_canons_124 : decode cX10_canons 124 = .ok (.iload_n 1, 1) := by decide +kernel
theorem dX10_canons_125 : decode cX10_canons 125 = .ok (.imul, 1) := by decide +kernel
theorem dX10_canons_126 : decode cX10_canons 126 = .ok (.iload 4, 2) := by decide +kernel
theorem dX10_canons_128 : decode cX10_canons 128 = .ok (.iastore, 1) := by decide +kernel
theorem dX10_canons_129 : decode cX10_canons 129 = .ok (.iload 4, 2) := by decide +kernel
theorem dX10_canons_131 : decode cX10_canons 131 = .ok (.ireturn, 1) := by decide +kernel
set_option maxRecDepth 20000 in
theorem ggX10_changes_X10_isDancer : GoodIn wsX10_changes wsX10_isDancer := goodIn_r _ [6, 7, 8, 9, 5, 10, 26, 27, 28, 29, 30, 31, 32, 33, 34, 35, 36, 37, 38, 39, 40, 41, 42, 43, 44, 45, 46, 47, 48, 49, 50, 51, 52, 53, 54, 55, 56, 57, 58, 59, 60, 61, 62] (by decide +kernel) (by decide +kernel)
set_option maxRecDepth 20000 in
theorem gX10_changes_X10_isDancer : GoodIn wsX10_changes (wsV RX10 169 RX10 yX10_isDancer wsX10_isDancer) := goodIn_app (goodIn_of _ (by decide +kernel)) ggX10_changes_X10_isDancer
set_option maxRecDepth 20000 in
theorem ggX10_changes_X10_sizeOf : GoodIn wsX10_changes wsX10_sizeOf := goodIn_r _ [14, 1, 26, 27, 28, 29, 30, 31, 32, 33, 34, 35, 36, 37, 38, 39, 40, 41, 42, 43, 44, 45, 46, 47, 48, 49, 50, 51, 52, 53, 54, 55, 56, 57, 58, 59, 60, 61, 62] (by decide +kernel) (by decide +kernel)
set_option maxRecDepth 20000 in
theorem gX10_changes_X10_sizeOf : GoodIn wsX10_changes (wsV RX10 158 RX10 yX10_sizeOf wsX10_sizeOf) := goodIn_app (goodIn_of _ (by decide +kernel)) ggX10_changes_X10_sizeOf
set_option maxRecDepth 20000 in
theorem ggX10_changes_X10_in : GoodIn wsX10_changes wsX10_in := goodIn_r _ [10] (by decide +kernel) (by decide +kernel)
set_option maxRecDepth 20000 in
theorem gX10_changes_X10_in : GoodIn wsX10_changes (va_wsS RX10 74 yX10_in wsX10_in) := goodIn_app (goodIn_of _ (by decide +kernel)) ggX10_changes_X10_in
set_option maxRecDepth 20000 in
theorem ggX10_changes_X10_signOf : GoodIn wsX10_changes wsX10_signOf := goodIn_r _ [18, 1, 26, 27, 28, 29, 30, 31, 32, 33, 34, 35, 36, 37, 38, 39, 40, 41, 42, 43, 44, 45, 46, 47, 48, 49, 50, 51, 52, 53, 54, 55, 56, 57, 58, 59, 60, 61, 62] (by decide +kernel) (by decide +kernel)
set_option maxRecDepth 20000 in
theorem gX10_changes_X10_signOf : GoodIn wsX10_changes (wsV RX10 161 RX10 yX10_signOf wsX10_signOf) := goodIn_app (goodIn_of _ (by decide +kernel)) ggX10_changes_X10_signOf
set_option maxRecDepth 20000 in
theorem ggX10_changes_X10_remember : GoodIn wsX10_changes wsX10_remember := goodIn_r _ [22, 23, 24, 1, 25, 26, 27, 28, 29, 30, 31, 32, 33, 34, 35, 36, 37, 38, 39, 40, 41, 42, 43, 44, 45, 46, 47, 48, 49, 50, 51, 52, 53, 54, 55, 56, 57, 58, 59, 60, 61, 62] (by decide +kernel) (by decide +kernel)
set_option maxRecDepth 20000 in
theorem gX10_changes_X10_remember : GoodIn wsX10_changes (wsV RX10 192 RX10 yX10_remember wsX10_remember) := goodIn_app (goodIn_of _ (by decide +kernel)) ggX10_changes_X10_remember
theorem dX10_changes_0 : decode cX10_changes 0 = .ok (.aload_n 0, 1) := by decide +kernel
theorem dX10_changes_1 : decode cX10_changes 1 = .ok (.iload_n 1, 1) := by decide +kernel
theorem dX10_changes_2 : decode cX10_changes 2 = .ok (.invokevirtual 169, 3) := by decide +kernel
theorem dX10_changes_5 : decode cX10_changes 5 = .ok (.ifCond .eq 28, 3) := by decide +kernel
theorem dX10_changes_8 : decode cX10_changes 8 = .ok (.iload_n 2, 1) := by decide +kernel
theorem dX10_changes_9 : decode cX10_changes 9 = .ok (.iconst 0, 1) := by decide +kernel
theorem dX10_changes_10 : decode cX10_changes 10 = .ok (.aload_n 0, 1) := by decide +kernel
theorem dX10_changes_11 : decode cX10_changes 11 = .ok (.iload_n 1, 1) := by decide +kernel
theorem dX10_changes_12 : decode cX10_changes 12 = .ok (.invokevirtual 158, 3) := by decide +kernel
theorem dX10_changes_15 : decode cX10_changes 15 = .ok (.iconst 1, 1) := by decide +kernel
theorem dX10_changes_16 : decode cX10_changes 16 = .ok (.isub, 1) := by decide +kernel
theorem dX10_changes_17 : decode cX10_changes 17 = .ok (.invokestatic 74, 3) := by decide +kernel

theorem dX10_fewest_76 : decode cX10_fewest 76 = .ok (.iaload, 1) := by decide +kernel
theorem dX10_fewest_77 : decode cX10_fewest 77 = .ok (.aload_n 0, 1) := by decide +kernel
theorem dX10_fewest_78 : decode cX10_fewest 78 = .ok (.getfield 59, 3) := by decide +kernel
theorem dX10_fewest_81 : decode cX10_fewest 81 = .ok (.iload_n 2, 1) := by decide +kernel
theorem dX10_fewest_82 : decode cX10_fewest 82 = .ok (.iaload, 1) := by decide +kernel
theorem dX10_fewest_83 : decode cX10_fewest 83 = .ok (.aload_n 0, 1) := by decide +kernel
theorem dX10_fewest_84 : decode cX10_fewest 84 = .ok (.getfield 62, 3) := by decide +kernel
theorem dX10_fewest_87 : decode cX10_fewest 87 = .ok (.iload_n 2, 1) := by decide +kernel
theorem dX10_fewest_88 : decode cX10_fewest 88 = .ok (.iaload, 1) := by decide +kernel
theorem dX10_fewest_89 : decode cX10_fewest 89 = .ok (.invokestatic 211, 3) := by decide +kernel
theorem dX10_fewest_92 : decode cX10_fewest 92 = .ok (.istore 7, 2) := by decide +kernel
theorem dX10_fewest_94 : decode cX10_fewest 94 = .ok (.aload_n 0, 1) := by decide +kernel
theorem dX10_fewest_95 : decode cX10_fewest 95 = .ok (.iload_n 3, 1) := by decide +kernel
theorem dX10_fewest_96 : decode cX10_fewest 96 = .ok (.iload 4, 2) := by decide +kernel
theorem dX10_fewest_98 : decode cX10_fewest 98 = .ok (.iload 5, 2) := by decide +kernel
theorem dX10_fewest_100 : decode cX10_fewest 100 = .ok (.invokevirtual 218, 3) := by decide +kernel
theorem dX10_fewest_103 : decode cX10_fewest 103 = .ok (.iload 6, 2) := by decide +kernel
theorem dX10_fewest_105 : decode cX10_fewest 105 = .ok (.ifCond .ge 11, 3) := by decide +kernel
theorem dX10_fewest_108 : decode cX10_fewest 108 = .ok (.aload_n 0, 1) := by decide +kernel
theorem dX10_fewest_109 : decode cX10_fewest 109 = .ok (.getfield 71, 3) := by decide +kernel
theorem dX10_fewest_112 : decode cX10_fewest 112 = .ok (.iload 7, 2) := by decide +kernel
theorem dX10_fewest_114 : decode cX10_fewest 114 = .ok (.iaload, 1) := by decide +kernel
theorem dX10_fewest_115 : decode cX10_fewest 115 = .ok (.ireturn, 1) := by decide +kernel
theorem dX10_fewest_116 : decode cX10_fewest 116 = .ok (.bipush (-9), 2) := by decide +kernel
theorem dX10_fewest_118 : decode cX10_fewest 118 = .ok (.istore 8, 2) := by decide +kernel
theorem dX10_fewest_120 : decode cX10_fewest 120 = .ok (.iconst 0, 1) := by decide +kernel
theorem dX10_fewest_121 : decode cX10_fewest 121 = .ok (.istore 9, 2) := by decide +kernel
theorem dX10_fewest_123 : decode cX10_fewest 123 = .ok (.iload 9, 2) := by decide +kernel
theorem dX10_fewest_125 : decode cX10_fewest 125 = .ok (.iload 6, 2) := by decide +kernel
theorem dX10_fewest_127 : decode cX10_fewest 127 = .ok (.if_icmp .gt 99, 3) := by decide +kernel
theorem dX10_fewest_130 : decode cX10_fewest 130 = .ok (.aload_n 0, 1) := by decide +kernel
theorem dX10_fewest_131 : decode cX10_fewest 131 = .ok (.getfield 71, 3) := by decide +kernel
theorem dX10_fewest_134 : decode cX10_fewest 134 = .ok (.iload 7, 2) := by decide +kernel
theorem dX10_fewest_136 : decode cX10_fewest 136 = .ok (.iaload, 1) := by decide +kernel
theorem dX10_fewest_137 : decode cX10_fewest 137 = .ok (.ifCond .ne 6, 3) := by decide +kernel
theorem dX10_fewest_140 : decode cX10_fewest 140 = .ok (.bipush (-9), 2) := by decide +kernel
theorem dX10_fewest_142 : decode cX10_fewest 142 = .ok (.ireturn, 1) := by decide +kernel
theorem dX10_fewest_143 : decode cX10_fewest 143 = .ok (.iconst 1, 1) := by decide +kernel
theorem dX10_fewest_144 : decode cX10_fewest 144 = .ok (.istore 8, 2) := by decide +kernel
theorem dX10_fewest_146 : decode cX10_fewest 146 = .ok (.aload_n 0, 1) := by decide +kernel
theorem dX10_fewest_147 : decode cX10_fewest 147 = .ok (.iload 7, 2) := by decide +kernel
theorem dX10_fewest_149 : decode cX10_fewest 149 = .ok (.iload 8, 2) := by decide +kernel
theorem dX10_fewest_151 : decode cX10_fewest 151 = .ok (.invokevirtual 215, 3) := by decide +kernel
theorem dX10_fewest_154 : decode cX10_fewest 154 = .ok (.ifCond .eq 39, 3) := by decide +kernel
theorem dX10_fewest_157 : decode cX10_fewest 157 = .ok (.aload_n 0, 1) := by decide +kernel
theorem dX10_fewest_158 : decode cX10_fewest 158 = .ok (.getfield 71, 3) := by decide +kernel
theorem dX10_fewest_161 : decode cX10_fewest 161 = .ok (.aload_n 0, 1) := by decide +kernel
theorem dX10_fewest_162 : decode cX10_fewest 162 = .ok (.getfield 140, 3) := by decide +kernel
theorem dX10_fewest_165 : decode cX10_fewest 165 = .ok (.aload_n 0, 1) := by decide +kernel
theorem dX10_fewest_166 : decode cX10_fewest 166 = .ok (.getfield 143, 3) := by decide +kernel
theorem dX10_fewest_169 : decode cX10_fewest 169 = .ok (.aload_n 0, 1) := by decide +kernel
theorem dX10_fewest_170 : decode cX10_fewest 170 = .ok (.getfield 146, 3) := by decide +kernel
theorem dX10_fewest_173 : decode cX10_fewest 173 = .ok (.aload_n 0, 1) := by decide +kernel
theorem dX10_fewest_174 : decode cX10_fewest 174 = .ok (.getfield 149, 3) := by decide +kernel
theorem dX10_fewest_177 : decode cX10_fewest 177 = .ok (.invokestatic 211, 3) := by decide +kernel
theorem dX10_fewest_180 : decode cX10_fewest 180 = .ok (.iaload, 1) := by decide +kernel
theorem dX10_fewest_181 : decode cX10_fewest 181 = .ok (.aload_n 0, 1) := by decide +kernel
theorem dX10_fewest_182 : decode cX10_fewest 182 = .ok (.getfield 71, 3) := by decide +kernel
theorem dX10_fewest_185 : decode cX10_fewest 185 = .ok (.iload 7, 2) := by decide +kernel
theorem dX10_fewest_187 : decode cX10_fewest 187 = .ok (.iaload, 1) := by decide +kernel
theorem dX10_fewest_188 : decode cX10_fewest 188 = .ok (.iconst 1, 1) := by decide +kernel
theorem dX10_fewest_189 : decode cX10_fewest 189 = .ok (.isub, 1) := by decide +kernel
theorem dX10_fewest_190 : decode cX10_fewest 190 = .ok (.if_icmp .eq 9, 3) := by decide +kernel
theorem dX10_fewest_193 : decode cX10_fewest 193 = .ok (.iinc 8 1, 3) := by decide +kernel
theorem dX10_fewest_196 : decode cX10_fewest 196 = .ok (.goto (-50), 3) := by decide +kernel
theorem dX10_fewest_199 : decode cX10_fewest 199 = .ok (.aload_n 0, 1) := by decide +kernel
theorem dX10_fewest_200 : decode cX10_fewest 200 = .ok (.getfield 140, 3) := by decide +kernel
theorem dX10_fewest_203 : decode cX10_fewest 203 = .ok (.aload_n 0, 1) := by decide +kernel
theorem dX10_fewest_204 : decode cX10_fewest 204 = .ok (.getfield 143, 3) := by decide +kernel
theorem dX10_fewest_207 : decode cX10_fewest 207 = .ok (.aload_n 0, 1) := by decide +kernel
theorem dX10_fewest_208 : decode cX10_fewest 208 = .ok (.getfield 146, 3) := by decide +kernel
theorem dX10_fewest_211 : decode cX10_fewest 211 = .ok (.aload_n 0, 1) := by decide +kernel
theorem dX10_fewest_212 : decode cX10_fewest 212 = .ok (.getfield 149, 3) := by decide +kernel
theorem dX10_fewest_215 : decode cX10_fewest 215 = .ok (.invokestatic 211, 3) := by decide +kernel
theorem dX10_fewest_218 : decode cX10_fewest 218 = .ok (.istore 7, 2) := by decide +kernel
theorem dX10_fewest_220 : decode cX10_fewest 220 = .ok (.iinc 9 1, 3) := by decide +kernel
theorem dX10_fewest_223 : decode cX10_fewest 223 = .ok (.goto (-100), 3) := by decide +kernel
theorem dX10_fewest_226 : decode cX10_fewest 226 = .ok (.iload 8, 2) := by decide +kernel
theorem dX10_fewest_228 : decode cX10_fewest 228 = .ok (.ireturn, 1) := by decide +kernel
set_option maxRecDepth 20000 in
theorem ggX10_sees_X10_in : GoodIn wsX10_sees wsX10_in := goodIn_r _ [8] (by decide +kernel) (by decide +kernel)
set_option maxRecDepth 20000 in
theorem gX10_sees_X10_in : GoodIn wsX10_sees (va_wsS RX10 74 yX10_in wsX10_in) := goodIn_app (goodIn_of _ (by decide +kernel)) ggX10_sees_X10_in
theorem dX10_sees_0 : decode cX10_sees 0 = .ok (.aload_n 0, 1) := by decide +kernel
theorem dX10_sees_1 : decode cX10_sees 1 = .ok (.getfield 127, 3) := by decide +kernel
theorem dX10_sees_4 : decode cX10_sees 4 = .ok (.ifCond .eq 33, 3) := by decide +kernel
theorem dX10_sees_7 : decode cX10_sees 7 = .ok (.iload_n 1, 1) := by decide +kernel
theorem dX10_sees_8 : decode cX10_sees 8 = .ok (.iconst 0, 1) := by decide +kernel
theorem dX10_sees_9 : decode cX10_sees 9 = .ok (.bipush 10, 2) := by decide +kernel
theorem dX10_sees_11 : decode cX10_sees 11 = .ok (.invokestatic 74, 3) := by decide +kernel
theorem dX10_sees_14 : decode cX10_sees 14 = .ok (.ifCond .eq 23, 3) := by decide +kernel
theorem dX10_sees_17 : decode cX10_sees 17 = .ok (.iload_n 2, 1) := by decide +kernel
theorem dX10_sees_18 : decode cX10_sees 18 = .ok (.iconst 0, 1) := by decide +kernel
theorem dX10_sees_19 : decode cX10_sees 19 = .ok (.bipush 6, 2) := by decide +kernel
theorem dX10_sees_21 : decode cX10_sees 21 = .ok (.invokestatic 74, 3) := by decide +kernel
theorem dX10_sees_24 : decode cX10_sees 24 = .ok (.ifCond .eq 13, 3) := by decide +kernel
theorem dX10_sees_27 : decode cX10_sees 27 = .ok (.iload_n 3, 1) := by decide +kernel
theorem dX10_sees_28 : decode cX10_sees 28 = .ok (.iconst 0, 1) := by decide +kernel
theorem dX10_sees_29 : decode cX10_sees 29 = .ok (.bipush 6, 2) := by decide +kernel
theorem dX10_sees_31 : decode cX10_sees 31 = .ok (.invokestatic 74, 3) := by decide +kernel
theorem dX10_sees_34 : decode cX10_sees 34 = .ok (.ifCond .ne 5, 3) := by decide +kernel
theorem dX10_sees_37 : decode cX10_sees 37 = .ok (.iconst (-1), 1) := by decide +kernel
theorem dX10_sees_38 : decode cX10_sees 38 = .ok (.ireturn, 1) := by decide +kernel
theorem dX10_sees_39 : decode cX10_sees 39 = .ok (.aload_n 0, 1) := by decide +kernel
theorem dX10_sees_40 : decode cX10_sees 40 = .ok (.getfield 133, 3) := by decide +kernel
theorem dX10_sees_43 : decode cX10_sees 43 = .ok (.bipush 6, 2) := by decide +kernel
theorem dX10_sees_45 : decode cX10_sees 45 = .ok (.if_icmp .ne 6, 3) := by decide +kernel
theorem dX10_sees_48 : decode cX10_sees 48 = .ok (.bipush (-3), 2) := by decide +kernel
theorem dX10_sees_50 : decode cX10_sees 50 = .ok (.ireturn, 1) := by decide +kernel
theorem dX10_sees_51 : decode cX10_sees 51 = .ok (.aload_n 0, 1) := by decide +kernel
theorem dX10_sees_52 : decode cX10_sees 52 = .ok (.getfield 25, 3) := by decide +kernel
theorem dX10_sees_55 : decode cX10_sees 55 = .ok (.aload_n 0, 1) := by decide +kernel
theorem dX10_sees_56 : decode cX10_sees 56 = .ok (.getfield 133, 3) := by decide +kernel
theorem dX10_sees_59 : decode cX10_sees 59 = .ok (.iload_n 1, 1) := by decide +kernel
theorem dX10_sees_60 : decode cX10_sees 60 = .ok (.iastore, 1) := by decide +kernel
theorem dX10_sees_61 : decode cX10_sees 61 = .ok (.aload_n 0, 1) := by decide +kernel
theorem dX10_sees_62 : decode cX10_sees 62 = .ok (.getfield 28, 3) := by decide +kernel
theorem dX10_sees_65 : decode cX10_sees 65 = .ok (.aload_n 0, 1) := by decide +kernel
theorem dX10_sees_66 : decode cX10_sees 66 = .ok (.getfield 133, 3) := by decide +kernel
theorem dX10_sees_69 : decode cX10_sees 69 = .ok (.bipush 7, 2) := by decide +kernel
theorem dX10_sees_71 : decode cX10_sees 71 = .ok (.iload_n 2, 1) := by decide +kernel
theorem dX10_sees_72 : decode cX10_sees 72 = .ok (.imul, 1) := by decide +kernel
theorem dX10_sees_73 : decode cX10_sees 73 = .ok (.iload_n 3, 1) := by decide +kernel
theorem dX10_sees_74 : decode cX10_sees 74 = .ok (.iadd, 1) := by decide +kernel
theorem dX10_sees_75 : decode cX10_sees 75 = .ok (.iastore, 1) := by decide +kernel
theorem dX10_sees_76 : decode cX10_sees 76 = .ok (.aload_n 0, 1) := by decide +kernel
theorem dX10_sees_77 : decode cX10_sees 77 = .ok (.dup, 1) := by decide +kernel
theorem dX10_sees_78 : decode cX10_sees 78 = .ok (.getfield 133, 3) := by decide +kernel
theorem dX10_sees_81 : decode cX10_sees 81 = .ok (.iconst 1, 1) := by decide +kernel
theorem dX10_sees_82 : decode cX10_sees 82 = .ok (.iadd, 1) := by decide +kernel
theorem dX10_sees_83 : decode cX10_sees 83 = .ok (.putfield 133, 3) := by decide +kernel
theorem dX10_sees_86 : decode cX10_sees 86 = .ok (.aload_n 0, 1) := by decide +kernel
theorem dX10_sees_87 : decode cX10_sees 87 = .ok (.getfield 133, 3) := by decide +kernel
theorem dX10_sees_90 : decode cX10_sees 90 = .ok (.ireturn, 1) := by decide +kernel
theorem dX10_forget_0 : decode cX10_forget 0 = .ok (.aload_n 0, 1) := by decide +kernel
theorem dX10_forget_1 : decode cX10_forget 1 = .ok (.getfield 133, 3) := by decide +kernel
theorem dX10_forget_4 : decode cX10_forget 4 = .ok (.istore_n 1, 1) := by decide +kernel
theorem dX10_forget_5 : decode cX10_forget 5 = .ok (.aload_n 0, 1) := by decide +kernel
theorem dX10_forget_6 : decode cX10_forget 6 = .ok (.iconst 0, 1) := by decide +kernel
theorem dX10_forget_7 : decode cX10_forget 7 = .ok (.putfield 133, 3) := by decide +kernel
theorem dX10_forget_10 : decode cX10_forget 10 = .ok (.iload_n 1, 1) := by decide +kernel
theorem dX10_forget_11 : decode cX10_forget 11 = .ok (.ireturn, 1) := by decide +kernel
set_option maxRecDepth 20000 in
theorem ggX10_unseen_X10_sizeOf : GoodIn wsX10_unseen wsX10_sizeOf := goodIn_r _ [10, 11, 43, 44, 45, 46, 47, 48, 49, 50, 51, 52, 53, 54, 55, 56, 57, 58, 59, 60, 61, 62, 63, 64, 65, 66, 67, 68, 69, 70, 71, 72, 73, 74, 75, 76, 77, 78, 79] (by decide +kernel) (by decide +kernel)
set_option maxRecDepth 20000 in
theorem gX10_unseen_X10_sizeOf : GoodIn wsX10_unseen (wsV RX10 158 RX10 yX10_sizeOf wsX10_sizeOf) := goodIn_app (goodIn_of _ (by decide +kernel)) ggX10_unseen_X10_sizeOf
set_option maxRecDepth 20000 in
theorem ggX10_unseen_X10_dances : GoodIn wsX10_unseen wsX10_dances := goodIn_r _ [15, 2, 16, 4, 17, 18, 19, 20, 21, 22, 23, 24, 25, 6, 7, 8, 9, 10, 11, 26, 27, 28, 29, 30, 31, 32, 33, 34, 35, 36, 37, 38, 39, 40, 41, 42, 43, 44, 45, 46, 47, 48, 49, 50, 51, 52, 53, 54, 55, 56, 57, 58, 59, 60, 61, 62, 63, 64, 65, 66, 67, 68, 69, 70, 71, 72, 73, 74, 75, 76, 77, 78, 79] (by decide +kernel) (by decide +kernel)
set_option maxRecDepth 20000 in
theorem gX10_unseen_X10_dances : GoodIn wsX10_unseen (wsV RX10 172 RX10 yX10_dances wsX10_dances) := goodIn_app (goodIn_of _ (by decide +kernel)) ggX10_unseen_X10_dances
theorem dX10_unseen_0 : decode cX10_unseen 0 = .ok (.iconst 0, 1) := by decide +kernel
theorem dX10_unseen_1 : decode cX10_unseen 1 = .ok (.istore_n 1, 1) := by decide +kernel
theorem dX10_unseen_2 : decode cX10_unseen 2 = .ok (.iconst 0, 1) := by decide +kernel
theorem dX10_unseen_3 : decode cX10_unseen 3 = .ok (.istore_n 2, 1) := by decide +kernel
theorem dX10_unseen_4 : decode cX10_unseen 4 = .ok (.iload_n 2, 1) := by decide +kernel
theorem dX10_unseen_5 : decode cX10_unseen 5 = .ok (.aload_n 0, 1) := by decide +kernel
theorem dX10_unseen_6 : decode cX10_unseen 6 = .ok (.iconst 0, 1) := by decide +kernel
theorem dX10_unseen_7 : decode cX10_unseen 7 = .ok (.invokevirtual 158, 3) := by decide +kernel
theorem dX10_unseen_10 : decode cX10_unseen 10 = .ok (.if_icmp .ge 97, 3) := by decide +kernel
theorem dX10_unseen_13 : decode cX10_unseen 13 = .ok (.aload_n 0, 1) := by decide +kernel
theorem dX10_unseen_14 : decode cX10_unseen 14 = .ok (.iconst 0, 1) := by decide +kernel
theorem dX10_unseen_15 : decode cX10_unseen 15 = .ok (.iload_n 2, 1) := by decide +kernel
theorem dX10_unseen_16 : decode cX10_unseen 16 = .ok (.invokevirtual 172, 3) := by decide +kernel
theorem dX10_unseen_19 : decode cX10_unseen 19 = .ok (.iconst 1, 1) := by decide +kernel
theorem dX10_unseen_20 : decode cX10_unseen 20 = .ok (.istore_n 3, 1) := by decide +kernel
theorem dX10_unseen_21 : decode cX10_unseen 21 = .ok (.iconst 0, 1) := by decide +kernel
theorem dX10_unseen_22 : decode cX10_unseen 22 = .ok (.istore 4, 2) := by decide +kernel
theorem dX10_unseen_24 : decode cX10_unseen 24 = .ok (.iload 4, 2) := by decide +kernel
theorem dX10_unseen_26 : decode cX10_unseen 26 = .ok (.aload_n 0, 1) := by decide +kernel
theorem dX10_unseen_27 : decode cX10_unseen 27 = .ok (.getfield 133, 3) := by decide +kernel
theorem dX10_unseen_30 : decode cX10_unseen 30 = .ok (.if_icmp .ge 57, 3) := by decide +kernel
theorem dX10_unseen_33 : decode cX10_unseen 33 = .ok (.iload_n 3, 1) := by decide +kernel
theorem dX10_unseen_34 : decode cX10_unseen 34 = .ok (.ifCond .eq 45, 3) := by decide +kernel
theorem dX10_unseen_37 : decode cX10_unseen 37 = .ok (.bipush 7, 2) := by decide +kernel
theorem dX10_unseen_39 : decode cX10_unseen 39 = .ok (.aload_n 0, 1) := by decide +kernel
theorem dX10_unseen_40 : decode cX10_unseen 40 = .ok (.getfield 53, 3) := by decide +kernel
theorem dX10_unseen_43 : decode cX10_unseen 43 = .ok (.aload_n 0, 1) := by decide +kernel
theorem dX10_unseen_44 : decode cX10_unseen 44 = .ok (.getfield 25, 3) := by decide +kernel
theorem dX10_unseen_47 : decode cX10_unseen 47 = .ok (.iload 4, 2) := by decide +kernel
theorem dX10_unseen_49 : decode cX10_unseen 49 = .ok (.iaload, 1) := by decide +kernel
theorem dX10_unseen_50 : decode cX10_unseen 50 = .ok (.iaload, 1) := by decide +kernel
theorem dX10_unseen_51 : decode cX10_unseen 51 = .ok (.imul, 1) := by decide +kernel
theorem dX10_unseen_52 : decode cX10_unseen 52 = .ok (.aload_n 0, 1) := by decide +kernel
theorem dX10_unseen_53 : decode cX10_unseen 53 = .ok (.getfield 56, 3) := by decide +kernel
theorem dX10_unseen_56 : decode cX10_unseen 56 = .ok (.aload_n 0, 1) := by decide +kernel
theorem dX10_unseen_57 : decode cX10_unseen 57 = .ok (.getfield 25, 3) := by decide +kernel
theorem dX10_unseen_60 : decode cX10_unseen 60 = .ok (.iload 4, 2) := by decide +kernel
theorem dX10_unseen_62 : decode cX10_unseen 62 = .ok (.iaload, 1) := by decide +kernel
theorem dX10_unseen_63 : decode cX10_unseen 63 = .ok (.iaload, 1) := by decide +kernel
theorem dX10_unseen_64 : decode cX10_unseen 64 = .ok (.iadd, 1) := by decide +kernel
theorem dX10_unseen_65 : decode cX10_unseen 65 = .ok (.aload_n 0, 1) := by decide +kernel
theorem dX10_unseen_66 : decode cX10_unseen 66 = .ok (.getfield 28, 3) := by decide +kernel
theorem dX10_unseen_69 : decode cX10_unseen 69 = .ok (.iload 4, 2) := by decide +kernel
theorem dX10_unseen_71 : decode cX10_unseen 71 = .ok (.iaload, 1) := by decide +kernel
theorem dX10_unseen_72 : decode cX10_unseen 72 = .ok (.if_icmp .ne 7, 3) := by decide +kernel
theorem dX10_unseen_75 : decode cX10_unseen 75 = .ok (.iconst 1, 1) := by decide +kernel
theorem dX10_unseen_76 : decode cX10_unseen 76 = .ok (.goto 4, 3) := by decide +kernel
theorem dX10_unseen_79 : decode cX10_unseen 79 = .ok (.iconst 0, 1) := by decide +kernel
theorem dX10_unseen_80 : decode cX10_unseen 80 = .ok (.istore_n 3, 1) := by decide +kernel
theorem dX10_unseen_81 : decode cX10_unseen 81 = .ok (.iinc 4 1, 3) := by decide +kernel
theorem dX10_unseen_84 : decode cX10_unseen 84 = .ok (.goto (-60), 3) := by decide +kernel
theorem dX10_unseen_87 : decode cX10_unseen 87 = .ok (.iload_n 1, 1) := by decide +kernel
theorem dX10_unseen_88 : decode cX10_unseen 88 = .ok (.iload_n 3, 1) := by decide +kernel
theorem dX10_unseen_89 : decode cX10_unseen 89 = .ok (.ifCond .eq 9, 3) := by decide +kernel
theorem dX10_unseen_92 : decode cX10_unseen 92 = .ok (.iconst 1, 1) := by decide +kernel
theorem dX10_unseen_93 : decode cX10_unseen 93 = .ok (.iload_n 2, 1) := by decide +kernel
theorem dX10_unseen_94 : decode cX10_unseen 94 = .ok (.ishl, 1) := by decide +kernel
theorem dX10_unseen_95 : decode cX10_unseen 95 = .ok (.goto 4, 3) := by decide +kernel
theorem dX10_unseen_98 : decode cX10_unseen 98 = .ok (.iconst 0, 1) := by decide +kernel
theorem dX10_unseen_99 : decode cX10_unseen 99 = .ok (.ior, 1) := by decide +kernel
theorem dX10_unseen_100 : decode cX10_unseen 100 = .ok (.istore_n 1, 1) := by decide +kernel
theorem dX10_unseen_101 : decode cX10_unseen 101 = .ok (.iinc 2 1, 3) := by decide +kernel
theorem dX10_unseen_104 : decode cX10_unseen 104 = .ok (.goto (-100), 3) := by decide +kernel
theorem dX10_unseen_107 : decode cX10_unseen 107 = .ok (.iload_n 1, 1) := by decide +kernel
theorem dX10_unseen_108 : decode cX10_unseen 108 = .ok (.ireturn, 1) := by decide +kernel
set_option maxRecDepth 20000 in
theorem ggX10_unlike_X10_has : GoodIn wsX10_unlike wsX10_has := goodIn_r _ [6] (by decide +kernel) (by decide +kernel)
set_option maxRecDepth 20000 in
theorem gX10_unlike_X10_has : GoodIn wsX10_unlike (va_wsS RX10 222 yX10_has wsX10_has) := goodIn_app (goodIn_of _ (by decide +kernel)) ggX10_unlike_X10_has
set_option maxRecDepth 20000 in
theorem ggX10_unlike_X10_dances : GoodIn wsX10_unlike wsX10_dances := goodIn_r _ [10, 1, 11, 2, 12, 13, 14, 15, 16, 17, 18, 19, 20, 21, 22, 23, 5, 24, 25, 26, 27, 28, 29, 30, 31, 32, 33, 34, 35, 36, 37, 38, 39, 40, 41, 42, 43, 44, 45, 46, 47, 48, 49, 50, 51, 52, 53, 54, 55, 56, 57, 58, 59, 60, 61, 62, 63, 64, 65, 66, 67, 68, 69, 70, 71, 72, 73, 74, 75, 76, 77, 78, 79] (by decide +kernel) (by decide +kernel)
set_option maxRecDepth 20000 in
theorem gX10_unlike_X10_dances : GoodIn wsX10_unlike (wsV RX10 172 RX10 yX10_dances wsX10_dances) := goodIn_app (goodIn_of _ (by decide +kernel)) ggX10_unlike_X10_dances
theorem dX10_unlike_0 : decode cX10_unlike 0 = .ok (.iconst 0, 1) := by decide +kernel
theorem dX10_unlike_1 : decode cX10_unlike 1 = .ok (.istore_n 3, 1) := by decide +kernel
theorem dX10_unlike_2 : decode cX10_unlike 2 = .ok (.iconst 0, 1) := by decide +kernel
theorem dX10_unlike_3 : decode cX10_unlike 3 = .ok (.istore 4, 2) := by decide +kernel
theorem dX10_unlike_5 : decode cX10_unlike 5 = .ok (.iload 4, 2) := by decide +kernel
theorem dX10_unlike_7 : decode cX10_unlike 7 = .ok (.bipush 49, 2) := by decide +kernel
theorem dX10_unlike_9 : decode cX10_unlike 9 = .ok (.if_icmp .ge 90, 3) := by decide +kernel
theorem dX10_unlike_12 : decode cX10_unlike 12 = .ok (.iconst 0, 1) := by decide +kernel
theorem dX10_unlike_13 : decode cX10_unlike 13 = .ok (.istore 5, 2) := by decide +kernel
theorem dX10_unlike_15 : decode cX10_unlike 15 = .ok (.iconst 0, 1) := by decide +kernel
theorem dX10_unlike_16 : decode cX10_unlike 16 = .ok (.istore 6, 2) := by decide +kernel
theorem dX10_unlike_18 : decode cX10_unlike 18 = .ok (.iload 6, 2) := by decide +kernel
theorem dX10_unlike_20 : decode cX10_unlike 20 = .ok (.bipush 10, 2) := by decide +kernel
theorem dX10_unlike_22 : decode cX10_unlike 22 = .ok (.if_icmp .ge 58, 3) := by decide +kernel
theorem dX10_unlike_25 : decode cX10_unlike 25 = .ok (.iload_n 1, 1) := by decide +kernel
theorem dX10_unlike_26 : decode cX10_unlike 26 = .ok (.iload 6, 2) := by decide +kernel
theorem dX10_unlike_28 : decode cX10_unlike 28 = .ok (.invokestatic 222, 3) := by decide +kernel
theorem dX10_unlike_31 : decode cX10_unlike 31 = .ok (.ifCond .eq 43, 3) := by decide +kernel
theorem dX10_unlike_34 : decode cX10_unlike 34 = .ok (.aload_n 0, 1) := by decide +kernel
theorem dX10_unlike_35 : decode cX10_unlike 35 = .ok (.iconst 0, 1) := by decide +kernel
theorem dX10_unlike_36 : decode cX10_unlike 36 = .ok (.iload 6, 2) := by decide +kernel
theorem dX10_unlike_38 : decode cX10_unlike 38 = .ok (.invokevirtual 172, 3) := by decide +kernel
theorem dX10_unlike_41 : decode cX10_unlike 41 = .ok (.iload 5, 2) := by decide +kernel
theorem dX10_unlike_43 : decode cX10_unlike 43 = .ok (.ifCond .ne 24, 3) := by decide +kernel
theorem dX10_unlike_46 : decode cX10_unlike 46 = .ok (.bipush 7, 2) := by decide +kernel
theorem dX10_unlike_48 : decode cX10_unlike 48 = .ok (.aload_n 0, 1) := by decide +kernel
theorem dX10_unlike_49 : decode cX10_unlike 49 = .ok (.getfield 53, 3) := by decide +kernel
theorem dX10_unlike_52 : decode cX10_unlike 52 = .ok (.iload_n 2, 1) := by decide +kernel
theorem dX10_unlike_53 : decode cX10_unlike 53 = .ok (.iaload, 1) := by decide +kernel
theorem dX10_unlike_54 : decode cX10_unlike 54 = .ok (.imul, 1) := by decide +kernel
theorem dX10_unlike_55 : decode cX10_unlike 55 = .ok (.aload_n 0, 1) := by decide +kernel
theorem dX10_unlike_56 : decode cX10_unlike 56 = .ok (.getfield 56, 3) := by decide +kernel
theorem dX10_unlike_59 : decode cX10_unlike 59 = .ok (.iload_n 2, 1) := by decide +kernel
theorem dX10_unlike_60 : decode cX10_unlike 60 = .ok (.iaload, 1) := by decide +kernel
theorem dX10_unlike_61 : decode cX10_unlike 61 = .ok (.iadd, 1) := by decide +kernel
theorem dX10_unlike_62 : decode cX10_unlike 62 = .ok (.iload 4, 2) := by decide +kernel
theorem dX10_unlike_64 : decode cX10_unlike 64 = .ok (.if_icmp .ne 7, 3) := by decide +kernel
theorem dX10_unlike_67 : decode cX10_unlike 67 = .ok (.iconst 1, 1) := by decide +kernel
theorem dX10_unlike_68 : decode cX10_unlike 68 = .ok (.goto 4, 3) := by decide +kernel
theorem dX10_unlike_71 : decode cX10_unlike 71 = .ok (.iconst 0, 1) := by decide +kernel
theorem dX10_unlike_72 : decode cX10_unlike 72 = .ok (.istore 5, 2) := by decide +kernel
theorem dX10_unlike_74 : decode cX10_unlike 74 = .ok (.iinc 6 1, 3) := by decide +kernel
theorem dX10_unlike_77 : decode cX10_unlike 77 = .ok (.goto (-59), 3) := by decide +kernel
theorem dX10_unlike_80 : decode cX10_unlike 80 = .ok (.iload_n 3, 1) := by decide +kernel
theorem dX10_unlike_81 : decode cX10_unlike 81 = .ok (.iload 5, 2) := by decide +kernel
theorem dX10_unlike_83 : decode cX10_unlike 83 = .ok (.ifCond .eq 7, 3) := by decide +kernel
theorem dX10_unlike_86 : decode cX10_unlike 86 = .ok (.iconst 1, 1) := by decide +kernel
theorem dX10_unlike_87 : decode cX10_unlike 87 = .ok (.goto 4, 3) := by decide +kernel
theorem dX10_unlike_90 : decode cX10_unlike 90 = .ok (.iconst 0, 1) := by decide +kernel
theorem dX10_unlike_91 : decode cX10_unlike 91 = .ok (.iadd, 1) := by decide +kernel
theorem dX10_unlike_92 : decode cX10_unlike 92 = .ok (.istore_n 3, 1) := by decide +kernel
theorem dX10_unlike_93 : decode cX10_unlike 93 = .ok (.iinc 4 1, 3) := by decide +kernel
theorem dX10_unlike_96 : decode cX10_unlike 96 = .ok (.goto (-91), 3) := by decide +kernel
theorem dX10_unlike_99 : decode cX10_unlike 99 = .ok (.iload_n 3, 1) := by decide +kernel
theorem dX10_unlike_100 : decode cX10_unlike 100 = .ok (.ireturn, 1) := by decide +kernel
set_option maxRecDepth 20000 in
theorem ggX10_look_X10_unseen : GoodIn wsX10_look wsX10_unseen := goodIn_r _ [5, 6, 7, 8, 9, 10, 11, 12, 13, 4, 14, 15, 16, 17, 18, 19, 20, 21, 22, 23, 24, 25, 26, 27, 28, 29, 30, 31, 32, 33, 34, 35, 36, 37, 38, 39, 40, 41, 42, 43, 44, 45, 46, 54, 55, 56, 57, 58, 59, 60, 61, 62, 63, 64, 65, 66, 67, 68, 69, 70, 71, 72, 73, 74, 75, 76, 77, 78, 79, 80, 81, 82, 83, 84, 85, 86, 87, 88, 89, 90] (by decide +kernel) (by decide +kernel)
set_option maxRecDepth 20000 in
theorem gX10_look_X10_unseen : GoodIn wsX10_look (wsV RX10 225 RX10 yX10_unseen wsX10_unseen) := goodIn_app (goodIn_of _ (by decide +kernel)) ggX10_look_X10_unseen
set_option maxRecDepth 20000 in
theorem ggX10_look_X10_unlike : GoodIn wsX10_look wsX10_unlike := goodIn_r _ [50, 7, 9, 51, 52, 4, 53, 16, 17, 18, 19, 20, 21, 22, 23, 24, 25, 26, 27, 28, 29, 11, 12, 13, 14, 15, 30, 31, 32, 33, 34, 35, 36, 37, 38, 39, 40, 41, 42, 43, 44, 45, 46, 54, 55, 56, 57, 58, 59, 60, 61, 62, 63, 64, 65, 66, 67, 68, 69, 70, 71, 72, 73, 74, 75, 76, 77, 78, 79, 80, 81, 82, 83, 84, 85, 86, 87, 88, 89, 90] (by decide +kernel) (by decide +kernel)
set_option maxRecDepth 20000 in
theorem gX10_look_X10_unlike : GoodIn wsX10_look (wsV RX10 228 RX10 yX10_unlike wsX10_unlike) := goodIn_app (goodIn_of _ (by decide +kernel)) ggX10_look_X10_unlike
theorem dX10_look_0 : decode cX10_look 0 = .ok (.aload_n 0, 1) := by decide +kernel
theorem dX10_look_1 : decode cX10_look 1 = .ok (.invokevirtual 225, 3) := by decide +kernel
theorem dX10_look_4 : decode cX10_look 4 = .ok (.istore_n 1, 1) := by decide +kernel
theorem dX10_look_5 : decode cX10_look 5 = .ok (.bipush (-9), 2) := by decide +kernel
theorem dX10_look_7 : decode cX10_look 7 = .ok (.istore_n 2, 1) := by decide +kernel
theorem dX10_look_8 : decode cX10_look 8 = .ok (.iconst 0, 1) := by decide +kernel
theorem dX10_look_9 : decode cX10_look 9 = .ok (.istore_n 3, 1) := by decide +kernel
theorem dX10_look_10 : decode cX10_look 10 = .ok (.iconst 1, 1) := by decide +kernel
theorem dX10_look_11 : decode cX10_look 11 = .ok (.istore 4, 2) := by decide +kernel
theorem dX10_look_13 : decode cX10_look 13 = .ok (.iload 4, 2) := by decide +kernel
theorem dX10_look_15 : decode cX10_look 15 = .ok (.bipush 10, 2) := by decide +kernel
theorem dX10_look_17 : decode cX10_look 17 = .ok (.if_icmp .gt 52, 3) := by decide +kernel
theorem dX10_look_20 : decode cX10_look 20 = .ok (.iload_n 1, 1) := by decide +kernel
theorem dX10_look_21 : decode cX10_look 21 = .ok (.iload_n 1, 1) := by decide +kernel
theorem dX10_look_22 : decode cX10_look 22 = .ok (.iconst 1, 1) := by decide +kernel
theorem dX10_look_23 : decode cX10_look 23 = .ok (.isub, 1) := by decide +kernel
theorem dX10_look_24 : decode cX10_look 24 = .ok (.iand, 1) := by decide +kernel
theorem dX10_look_25 : decode cX10_look 25 = .ok (.ifCond .eq 44, 3) := by decide +kernel
theorem dX10_look_28 : decode cX10_look 28 = .ok (.aload_n 0, 1) := by decide +kernel
theorem dX10_look_29 : decode cX10_look 29 = .ok (.iload_n 1, 1) := by decide +kernel
theorem dX10_look_30 : decode cX10_look 30 = .ok (.iload 4, 2) := by decide +kernel
theorem dX10_look_32 : decode cX10_look 32 = .ok (.invokevirtual 228, 3) := by decide +kernel
theorem dX10_look_35 : decode cX10_look 35 = .ok (.istore 5, 2) := by decide +kernel
theorem dX10_look_37 : decode cX10_look 37 = .ok (.iload 5, 2) := by decide +kernel
theorem dX10_look_39 : decode cX10_look 39 = .ok (.iload_n 3, 1) := by decide +kernel
theorem dX10_look_40 : decode cX10_look 40 = .ok (.if_icmp .le 8, 3) := by decide +kernel
theorem dX10_look_43 : decode cX10_look 43 = .ok (.iload 4, 2) := by decide +kernel
theorem dX10_look_45 : decode cX10_look 45 = .ok (.goto 4, 3) := by decide +kernel
theorem dX10_look_48 : decode cX10_look 48 = .ok (.iload_n 2, 1) := by decide +kernel
theorem dX10_look_49 : decode cX10_look 49 = .ok (.istore_n 2, 1) := by decide +kernel
theorem dX10_look_50 : decode cX10_look 50 = .ok (.iload 5, 2) := by decide +kernel
theorem dX10_look_52 : decode cX10_look 52 = .ok (.iload_n 3, 1) := by decide +kernel
theorem dX10_look_53 : decode cX10_look 53 = .ok (.if_icmp .le 8, 3) := by decide +kernel
theorem dX10_look_56 : decode cX10_look 56 = .ok (.iload 5, 2) := by decide +kernel
theorem dX10_look_58 : decode cX10_look 58 = .ok (.goto 4, 3) := by decide +kernel
theorem dX10_look_61 : decode cX10_look 61 = .ok (.iload_n 3, 1) := by decide +kernel
theorem dX10_look_62 : decode cX10_look 62 = .ok (.istore_n 3, 1) := by decide +kernel
theorem dX10_look_63 : decode cX10_look 63 = .ok (.iinc 4 1, 3) := by decide +kernel
theorem dX10_look_66 : decode cX10_look 66 = .ok (.goto (-53), 3) := by decide +kernel
theorem dX10_look_69 : decode cX10_look 69 = .ok (.iload_n 2, 1) := by decide +kernel
theorem dX10_look_70 : decode cX10_look 70 = .ok (.ireturn, 1) := by decide +kernel
set_option maxRecDepth 20000 in
theorem ggX10_keep_X10_in : GoodIn wsX10_keep wsX10_in := goodIn_r _ [8] (by decide +kernel) (by decide +kernel)
set_option maxRecDepth 20000 in
theorem gX10_keep_X10_in : GoodIn wsX10_keep (va_wsS RX10 74 yX10_in wsX10_in) := goodIn_app (goodIn_of _ (by decide +kernel)) ggX10_keep_X10_in
theorem dX10_keep_0 : decode cX10_keep 0 = .ok (.iload_n 1, 1) := by decide +kernel
theorem dX10_keep_1 : decode cX10_keep 1 = .ok (.iconst 0, 1) := by decide +kernel
theorem dX10_keep_2 : decode cX10_keep 2 = .ok (.iconst 1, 1) := by decide +kernel
theorem dX10_keep_3 : decode cX10_keep 3 = .ok (.invokestatic 74, 3) := by decide +kernel
theorem dX10_keep_6 : decode cX10_keep 6 = .ok (.ifCond .ne 5, 3) := by decide +kernel
theorem dX10_keep_9 : decode cX10_keep 9 = .ok (.iconst (-1), 1) := by decide +kernel
theorem dX10_keep_10 : decode cX10_keep 10 = .ok (.ireturn, 1) := by decide +kernel
theorem dX10_keep_11 : decode cX10_keep 11 = .ok (.aload_n 0, 1) := by decide +kernel
theorem dX10_keep_12 : decode cX10_keep 12 = .ok (.getfield 31, 3) := by decide +kernel
theorem dX10_keep_15 : decode cX10_keep 15 = .ok (.iload_n 1, 1) := by decide +kernel
theorem dX10_keep_16 : decode cX10_keep 16 = .ok (.iconst 1, 1) := by decide +kernel
theorem dX10_keep_17 : decode cX10_keep 17 = .ok (.bastore, 1) := by decide +kernel
theorem dX10_keep_18 : decode cX10_keep 18 = .ok (.iconst 0, 1) := by decide +kernel
theorem dX10_keep_19 : decode cX10_keep 19 = .ok (.istore_n 2, 1) := by decide +kernel
theorem dX10_keep_20 : decode cX10_keep 20 = .ok (.iload_n 2, 1) := by decide +kernel
theorem dX10_keep_21 : decode cX10_keep 21 = .ok (.bipush 33, 2) := by decide +kernel
theorem dX10_keep_23 : decode cX10_keep 23 = .ok (.if_icmp .ge 26, 3) := by decide +kernel
theorem dX10_keep_26 : decode cX10_keep 26 = .ok (.aload_n 0, 1) := by decide +kernel
theorem dX10_keep_27 : decode cX10_keep 27 = .ok (.getfield 35, 3) := by decide +kernel
theorem dX10_keep_30 : decode cX10_keep 30 = .ok (.bipush 33, 2) := by decide +kernel
theorem dX10_keep_32 : decode cX10_keep 32 = .ok (.iload_n 1, 1) := by decide +kernel
theorem dX10_keep_33 : decode cX10_keep 33 = .ok (.imul, 1) := by decide +kernel
theorem dX10_keep_34 : decode cX10_keep 34 = .ok (.iload_n 2, 1) := by decide +kernel
theorem dX10_keep_35 : decode cX10_keep 35 = .ok (.iadd, 1) := by decide +kernel
theorem dX10_keep_36 : decode cX10_keep 36 = .ok (.aload_n 0, 1) := by decide +kernel
theorem dX10_keep_37 : decode cX10_keep 37 = .ok (.getfield 19, 3) := by decide +kernel
theorem dX10_keep_40 : decode cX10_keep 40 = .ok (.iload_n 2, 1) := by decide +kernel
theorem dX10_keep_41 : decode cX10_keep 41 = .ok (.iaload, 1) := by decide +kernel
theorem dX10_keep_42 : decode cX10_keep 42 = .ok (.iastore, 1) := by decide +kernel
theorem dX10_keep_43 : decode cX10_keep 43 = .ok (.iinc 2 1, 3) := by decide +kernel
theorem dX10_keep_46 : decode cX10_keep 46 = .ok (.goto (-26), 3) := by decide +kernel
theorem dX10_keep_49 : decode cX10_keep 49 = .ok (.aload_n 0, 1) := by decide +kernel
theorem dX10_keep_50 : decode cX10_keep 50 = .ok (.getfield 127, 3) := by decide +kernel
theorem dX10_keep_53 : decode cX10_keep 53 = .ok (.ireturn, 1) := by decide +kernel
set_option maxRecDepth 20000 in
theorem ggX10_back_X10_in : GoodIn wsX10_back wsX10_in := goodIn_r _ [9] (by decide +kernel) (by decide +kernel)
set_option maxRecDepth 20000 in
theorem gX10_back_X10_in : GoodIn wsX10_back (va_wsS RX10 74 yX10_in wsX10_in) := goodIn_app (goodIn_of _ (by decide +kernel)) ggX10_back_X10_in
theorem dX10_back_0 : decode cX10_back 0 = .ok (.iload_n 1, 1) := by decide +kernel
theorem dX10_back_1 : decode cX10_back 1 = .ok (.iconst 0, 1) := by decide +kernel
theorem dX10_back_2 : decode cX10_back 2 = .ok (.iconst 1, 1) := by decide +kernel
theorem dX10_back_3 : decode cX10_back 3 = .ok (.invokestatic 74, 3) := by decide +kernel
theorem dX10_back_6 : decode cX10_back 6 = .ok (.ifCond .ne 5, 3) := by decide +kernel
theorem dX10_back_9 : decode cX10_back 9 = .ok (.iconst (-1), 1) := by decide +kernel
theorem dX10_back_10 : decode cX10_back 10 = .ok (.ireturn, 1) := by decide +kernel
theorem dX10_back_11 : decode cX10_back 11 = .ok (.aload_n 0, 1) := by decide +kernel
theorem dX10_back_12 : decode cX10_back 12 = .ok (.getfield 31, 3) := by decide +kernel
theorem dX10_back_15 : decode cX10_back 15 = .ok (.iload_n 1, 1) := by decide +kernel
theorem dX10_back_16 : decode cX10_back 16 = .ok (.baload, 1) := by decide +kernel
theorem dX10_back_17 : decode cX10_back 17 = .ok (.ifCond .ne 6, 3) := by decide +kernel
theorem dX10_back_20 : decode cX10_back 20 = .ok (.bipush (-2), 2) := by decide +kernel
theorem dX10_back_22 : decode cX10_back 22 = .ok (.ireturn, 1) := by decide +kernel
theorem dX10_back_23 : decode cX10_back 23 = .ok (.iconst 0, 1) := by decide +kernel
theorem dX10_back_24 : decode cX10_back 24 = .ok (.istore_n 2, 1) := by decide +kernel
theorem dX10_back_25 : decode cX10_back 25 = .ok (.iload_n 2, 1) := by decide +kernel
theorem dX10_back_26 : decode cX10_back 26 = .ok (.bipush 33, 2) := by decide +kernel
theorem dX10_back_28 : decode cX10_back 28 = .ok (.if_icmp .ge 26, 3) := by decide +kernel
theorem dX10_back_31 : decode cX10_back 31 = .ok (.aload_n 0, 1) := by decide +kernel
theorem dX10_back_32 : decode cX10_back 32 = .ok (.getfield 19, 3) := by decide +kernel
theorem dX10_back_35 : decode cX10_back 35 = .ok (.iload_n 2, 1) := by decide +kernel
theorem dX10_back_36 : decode cX10_back 36 = .ok (.aload_n 0, 1) := by decide +kernel
theorem dX10_back_37 : decode cX10_back 37 = .ok (.getfield 35, 3) := by decide +kernel
theorem dX10_back_40 : decode cX10_back 40 = .ok (.bipush 33, 2) := by decide +kernel
theorem dX10_back_42 : decode cX10_back 42 = .ok (.iload_n 1, 1) := by decide +kernel
theorem dX10_back_43 : decode cX10_back 43 = .ok (.imul, 1) := by decide +kernel
theorem dX10_back_44 : decode cX10_back 44 = .ok (.iload_n 2, 1) := by decide +kernel
theorem dX10_back_45 : decode cX10_back 45 = .ok (.iadd, 1) := by decide +kernel
theorem dX10_back_46 : decode cX10_back 46 = .ok (.iaload, 1) := by decide +kernel
theorem dX10_back_47 : decode cX10_back 47 = .ok (.iastore, 1) := by decide +kernel
theorem dX10_back_48 : decode cX10_back 48 = .ok (.iinc 2 1, 3) := by decide +kernel
theorem dX10_back_51 : decode cX10_back 51 = .ok (.goto (-26), 3) := by decide +kernel
theorem dX10_back_54 : decode cX10_back 54 = .ok (.aload_n 0, 1) := by decide +kernel
theorem dX10_back_55 : decode cX10_back 55 = .ok (.iconst 0, 1) := by decide +kernel
theorem dX10_back_56 : decode cX10_back 56 = .ok (.putfield 130, 3) := by decide +kernel
theorem dX10_back_59 : decode cX10_back 59 = .ok (.aload_n 0, 1) := by decide +kernel
theorem dX10_back_60 : decode cX10_back 60 = .ok (.getfield 127, 3) := by decide +kernel
theorem dX10_back_63 : decode cX10_back 63 = .ok (.ireturn, 1) := by decide +kernel
set_option maxRecDepth 20000 in
theorem ggX10_ofAll_X10_dances : GoodIn wsX10_ofAll wsX10_dances := goodIn_r _ [7, 8, 9, 10, 11, 12, 13, 14, 2, 15, 16, 17, 18, 19, 20, 21, 6, 22, 23, 24, 25, 26, 27, 28, 29, 30, 31, 32, 33, 34, 35, 36, 37, 38, 39, 40, 55, 56, 57, 58, 59, 60, 61, 62, 63, 64, 65, 66, 67, 68, 69, 70, 71, 72, 73, 74, 75, 76, 77, 78, 79, 80, 81, 82, 83, 84, 85, 86, 87, 88, 89, 90, 91] (by decide +kernel) (by decide +kernel)
set_option maxRecDepth 20000 in
theorem gX10_ofAll_X10_dances : GoodIn wsX10_ofAll (wsV RX10 172 RX10 yX10_dances wsX10_dances) := goodIn_app (goodIn_of _ (by decide +kernel)) ggX10_ofAll_X10_dances
set_option maxRecDepth 20000 in
theorem ggX10_ofAll_X10_sizeOf : GoodIn wsX10_ofAll wsX10_sizeOf := goodIn_r _ [22, 23, 55, 56, 57, 58, 59, 60, 61, 62, 63, 64, 65, 66, 67, 68, 69, 70, 71, 72, 73, 74, 75, 76, 77, 78, 79, 80, 81, 82, 83, 84, 85, 86, 87, 88, 89, 90, 91] (by decide +kernel) (by decide +kernel)
set_option maxRecDepth 20000 in
theorem gX10_ofAll_X10_sizeOf : GoodIn wsX10_ofAll (wsV RX10 158 RX10 yX10_sizeOf wsX10_sizeOf) := goodIn_app (goodIn_of _ (by decide +kernel)) ggX10_ofAll_X10_sizeOf
set_option maxRecDepth 20000 in
theorem ggX10_ofAll_X10_meetOf : GoodIn wsX10_ofAll wsX10_meetOf := goodIn_r _ [44, 45, 8, 46, 10, 3, 4, 5, 6, 7, 9, 11, 12, 13, 14, 2, 15, 16, 17, 18, 19, 20, 21, 22, 23, 24, 25, 26, 27, 28, 29, 30, 31, 32, 33, 34, 35, 36, 37, 38, 39, 40, 47, 48, 49, 50, 51, 52, 53, 54, 55, 56, 57, 58, 59, 60, 61, 62, 63, 64, 65, 66, 67, 68, 69, 70, 71, 72, 73, 74, 75, 76, 77, 78, 79, 80, 81, 82, 83, 84, 85, 86, 87, 88, 89, 90, 91] (by decide +kernel) (by decide +kernel)
set_option maxRecDepth 20000 in
theorem gX10_ofAll_X10_meetOf : GoodIn wsX10_ofAll (wsV RX10 201 RX10 yX10_meetOf wsX10_meetOf) := goodIn_app (goodIn_of _ (by decide +kernel)) ggX10_ofAll_X10_meetOf
theorem dX10_ofAll_0 : decode cX10_ofAll 0 = .ok (.iconst 0, 1) := by decide +kernel
theorem dX10_ofAll_1 : decode cX10_ofAll 1 = .ok (.istore_n 2, 1) := by decide +kernel
theorem dX10_ofAll_2 : decode cX10_ofAll 2 = .ok (.iconst 0, 1) := by decide +kernel
theorem dX10_ofAll_3 : decode cX10_ofAll 3 = .ok (.istore_n 3, 1) := by decide +kernel
theorem dX10_ofAll_4 : decode cX10_ofAll 4 = .ok (.iload_n 3, 1) := by decide +kernel
theorem dX10_ofAll_5 : decode cX10_ofAll 5 = .ok (.aload_n 0, 1) := by decide +kernel
theorem dX10_ofAll_6 : decode cX10_ofAll 6 = .ok (.getfield 127, 3) := by decide +kernel
theorem dX10_ofAll_9 : decode cX10_ofAll 9 = .ok (.if_icmp .ge 105, 3) := by decide +kernel
theorem dX10_ofAll_12 : decode cX10_ofAll 12 = .ok (.aload_n 0, 1) := by decide +kernel
theorem dX10_ofAll_13 : decode cX10_ofAll 13 = .ok (.iload_n 3, 1) := by decide +kernel
theorem dX10_ofAll_14 : decode cX10_ofAll 14 = .ok (.bipush (-9), 2) := by decide +kernel
theorem dX10_ofAll_16 : decode cX10_ofAll 16 = .ok (.invokevirtual 172, 3) := by decide +kernel
theorem dX10_ofAll_19 : decode cX10_ofAll 19 = .ok (.iload_n 2, 1) := by decide +kernel
theorem dX10_ofAll_20 : decode cX10_ofAll 20 = .ok (.iload_n 1, 1) := by decide +kernel
theorem dX10_ofAll_21 : decode cX10_ofAll 21 = .ok (.iconst 1, 1) := by decide +kernel
theorem dX10_ofAll_22 : decode cX10_ofAll 22 = .ok (.if_icmp .ne 11, 3) := by decide +kernel
theorem dX10_ofAll_25 : decode cX10_ofAll 25 = .ok (.aload_n 0, 1) := by decide +kernel
theorem dX10_ofAll_26 : decode cX10_ofAll 26 = .ok (.iload_n 3, 1) := by decide +kernel
theorem dX10_ofAll_27 : decode cX10_ofAll 27 = .ok (.invokevirtual 158, 3) := by decide +kernel
theorem dX10_ofAll_30 : decode cX10_ofAll 30 = .ok (.goto 22, 3) := by decide +kernel
theorem dX10_ofAll_33 : decode cX10_ofAll 33 = .ok (.iload_n 1, 1) := by decide +kernel
theorem dX10_ofAll_34 : decode cX10_ofAll 34 = .ok (.iconst 2, 1) := by decide +kernel
theorem dX10_ofAll_35 : decode cX10_ofAll 35 = .ok (.if_icmp .ne 16, 3) := by decide +kernel
theorem dX10_ofAll_38 : decode cX10_ofAll 38 = .ok (.aload_n 0, 1) := by decide +kernel
theorem dX10_ofAll_39 : decode cX10_ofAll 39 = .ok (.getfield 155, 3) := by decide +kernel
theorem dX10_ofAll_42 : decode cX10_ofAll 42 = .ok (.bipush (-9), 2) := by decide +kernel
theorem dX10_ofAll_44 : decode cX10_ofAll 44 = .ok (.if_icmp .eq 7, 3) := by decide +kernel
theorem dX10_ofAll_47 : decode cX10_ofAll 47 = .ok (.iconst 1, 1) := by decide +kernel
theorem dX10_ofAll_48 : decode cX10_ofAll 48 = .ok (.goto 4, 3) := by decide +kernel
theorem dX10_ofAll_51 : decode cX10_ofAll 51 = .ok (.iconst 0, 1) := by decide +kernel
theorem dX10_ofAll_52 : decode cX10_ofAll 52 = .ok (.iadd, 1) := by decide +kernel
theorem dX10_ofAll_53 : decode cX10_ofAll 53 = .ok (.istore_n 2, 1) := by decide +kernel
theorem dX10_ofAll_54 : decode cX10_ofAll 54 = .ok (.iconst 0, 1) := by decide +kernel
theorem dX10_ofAll_55 : decode cX10_ofAll 55 = .ok (.istore 4, 2) := by decide +kernel
theorem dX10_ofAll_57 : decode cX10_ofAll 57 = .ok (.iload 4, 2) := by decide +kernel
theorem dX10_ofAll_59 : decode cX10_ofAll 59 = .ok (.iload_n 3, 1) := by decide +kernel
theorem dX10_ofAll_60 : decode cX10_ofAll 60 = .ok (.if_icmp .ge 48, 3) := by decide +kernel
theorem dX10_ofAll_63 : decode cX10_ofAll 63 = .ok (.iload_n 1, 1) := by decide +kernel
theorem dX10_ofAll_64 : decode cX10_ofAll 64 = .ok (.iconst 3, 1) := by decide +kernel
theorem dX10_ofAll_65 : decode cX10_ofAll 65 = .ok (.if_icmp .ne 43, 3) := by decide +kernel
theorem dX10_ofAll_68 : decode cX10_ofAll 68 = .ok (.iload_n 2, 1) := by decide +kernel
theorem dX10_ofAll_69 : decode cX10_ofAll 69 = .ok (.aload_n 0, 1) := by decide +kernel
theorem dX10_ofAll_70 : decode cX10_ofAll 70 = .ok (.iload_n 3, 1) := by decide +kernel
theorem dX10_ofAll_71 : decode cX10_ofAll 71 = .ok (.iload 4, 2) := by decide +kernel
theorem dX10_ofAll_73 : decode cX10_ofAll 73 = .ok (.iconst 0, 1) := by decide +kernel
theorem dX10_ofAll_74 : decode cX10_ofAll 74 = .ok (.invokevirtual 201, 3) := by decide +kernel
theorem dX10_ofAll_77 : decode cX10_ofAll 77 = .ok (.bipush (-9), 2) := by decide +kernel
theorem dX10_ofAll_79 : decode cX10_ofAll 79 = .ok (.if_icmp .ne 16, 3) := by decide +kernel
theorem dX10_ofAll_82 : decode cX10_ofAll 82 = .ok (.aload_n 0, 1) := by decide +kernel
theorem dX10_ofAll_83 : decode cX10_ofAll 83 = .ok (.iload_n 3, 1) := by decide +kernel
theorem dX10_ofAll_84 : decode cX10_ofAll 84 = .ok (.iload 4, 2) := by decide +kernel
theorem dX10_ofAll_86 : decode cX10_ofAll 86 = .ok (.iconst 1, 1) := by decide +kernel
theorem dX10_ofAll_87 : decode cX10_ofAll 87 = .ok (.invokevirtual 201, 3) := by decide +kernel
theorem dX10_ofAll_90 : decode cX10_ofAll 90 = .ok (.bipush (-9), 2) := by decide +kernel
theorem dX10_ofAll_92 : decode cX10_ofAll 92 = .ok (.if_icmp .eq 7, 3) := by decide +kernel
theorem dX10_ofAll_95 : decode cX10_ofAll 95 = .ok (.iconst 1, 1) := by decide +kernel
theorem dX10_ofAll_96 : decode cX10_ofAll 96 = .ok (.goto 4, 3) := by decide +kernel
theorem dX10_ofAll_99 : decode cX10_ofAll 99 = .ok (.iconst 0, 1) := by decide +kernel
theorem dX10_ofAll_100 : decode cX10_ofAll 100 = .ok (.iadd, 1) := by decide +kernel
theorem dX10_ofAll_101 : decode cX10_ofAll 101 = .ok (.istore_n 2, 1) := by decide +kernel
theorem dX10_ofAll_102 : decode cX10_ofAll 102 = .ok (.iinc 4 1, 3) := by decide +kernel
theorem dX10_ofAll_105 : decode cX10_ofAll 105 = .ok (.goto (-48), 3) := by decide +kernel
theorem dX10_ofAll_108 : decode cX10_ofAll 108 = .ok (.iinc 3 1, 3) := by decide +kernel
theorem dX10_ofAll_111 : decode cX10_ofAll 111 = .ok (.goto (-107), 3) := by decide +kernel
theorem dX10_ofAll_114 : decode cX10_ofAll 114 = .ok (.iload_n 2, 1) := by decide +kernel
theorem dX10_ofAll_115 : decode cX10_ofAll 115 = .ok (.ireturn, 1) := by decide +kernel
set_option maxRecDepth 20000 in
theorem ggX10_count_X10_ofAll : GoodIn wsX10_count wsX10_ofAll := goodIn_r _ [9, 1, 10, 11, 12, 13, 8, 14, 15, 16, 17, 18, 19, 20, 21, 22, 23, 24, 25, 26, 27, 28, 29, 30, 31, 32, 33, 34, 35, 36, 37, 38, 39, 40, 41, 42, 43, 44, 45, 46, 47, 48, 49, 50, 51, 52, 53, 54, 55, 56, 57, 58, 59, 60, 61, 62, 63, 64, 65, 66, 67, 68, 69, 70, 71, 72, 73, 74, 75, 76, 77, 78, 79, 80, 81, 82, 83, 84, 85, 86, 87, 88, 89, 90, 91, 92, 93, 94, 95, 96, 97, 98] (by decide +kernel) (by decide +kernel)
set_option maxRecDepth 20000 in
theorem gX10_count_X10_ofAll : GoodIn wsX10_count (wsV RX10 231 RX10 yX10_ofAll wsX10_ofAll) := goodIn_app (goodIn_of _ (by decide +kernel)) ggX10_count_X10_ofAll
theorem dX10_count_0 : decode cX10_count 0 = .ok (.iload_n 1, 1) := by decide +kernel
theorem dX10_count_1 : decode cX10_count 1 = .ok (.tableswitch 69 0 6 #[43, 48, 48, 48, 54, 59, 64], 43) := by decide +kernel
theorem dX10_count_44 : decode cX10_count 44 = .ok (.aload_n 0, 1) := by decide +kernel
theorem dX10_count_45 : decode cX10_count 45 = .ok (.getfield 127, 3) := by decide +kernel
theorem dX10_count_48 : decode cX10_count 48 = .ok (.ireturn, 1) := by decide +kernel
theorem dX10_count_49 : decode cX10_count 49 = .ok (.aload_n 0, 1) := by decide +kernel
theorem dX10_count_50 : decode cX10_count 50 = .ok (.iload_n 1, 1) := by decide +kernel
theorem dX10_count_51 : decode cX10_count 51 = .ok (.invokevirtual 231, 3) := by decide +kernel
theorem dX10_count_54 : decode cX10_count 54 = .ok (.ireturn, 1) := by decide +kernel
theorem dX10_count_55 : decode cX10_count 55 = .ok (.aload_n 0, 1) := by decide +kernel
theorem dX10_count_56 : decode cX10_count 56 = .ok (.getfield 133, 3) := by decide +kernel
theorem dX10_count_59 : decode cX10_count 59 = .ok (.ireturn, 1) := by decide +kernel
theorem dX10_count_60 : decode cX10_count 60 = .ok (.aload_n 0, 1) := by decide +kernel
theorem dX10_count_61 : decode cX10_count 61 = .ok (.getfield 78, 3) := by decide +kernel
theorem dX10_count_64 : decode cX10_count 64 = .ok (.ireturn, 1) := by decide +kernel
theorem dX10_count_65 : decode cX10_count 65 = .ok (.aload_n 0, 1) := by decide +kernel
theorem dX10_count_66 : decode cX10_count 66 = .ok (.getfield 130, 3) := by decide +kernel
theorem dX10_count_69 : decode cX10_count 69 = .ok (.ireturn, 1) := by decide +kernel
theorem dX10_count_70 : decode cX10_count 70 = .ok (.iconst (-1), 1) := by decide +kernel
theorem dX10_count_71 : decode cX10_count 71 = .ok (.ireturn, 1) := by decide +kernel
theorem dJ6_bitCount_0f7a4_0 : decode cJ6_bitCount_0f7a4 0 = .ok (.iload_n 0, 1) := by decide +kernel
theorem dJ6_bitCount_0f7a4_1 : decode cJ6_bitCount_0f7a4 1 = .ok (.iload_n 0, 1) := by decide +kernel
theorem dJ6_bitCount_0f7a4_2 : decode cJ6_bitCount_0f7a4 2 = .ok (.iconst 1, 1) := by decide +kernel
theorem dJ6_bitCount_0f7a4_3 : decode cJ6_bitCount_0f7a4 3 = .ok (.iushr, 1) := by decide +kernel
theorem dJ6_bitCount_0f7a4_4 : decode cJ6_bitCount_0f7a4 4 = .ok (.ldc_w 265, 3) := by decide +kernel
theorem dJ6_bitCount_0f7a4_7 : decode cJ6_bitCount_0f7a4 7 = .ok (.iand, 1) := by decide +kernel
theorem dJ6_bitCount_0f7a4_8 : decode cJ6_bitCount_0f7a4 8 = .ok (.isub, 1) := by decide +kernel
theorem dJ6_bitCount_0f7a4_9 : decode cJ6_bitCount_0f7a4 9 = .ok (.istore_n 0, 1) := by decide +kernel
theorem dJ6_bitCount_0f7a4_10 : decode cJ6_bitCount_0f7a4 10 = .ok (.iload_n 0, 1) := by decide +kernel
theorem dJ6_bitCount_0f7a4_11 : decode cJ6_bitCount_0f7a4 11 = .ok (.ldc_w 266, 3) := by decide +kernel
theorem dJ6_bitCount_0f7a4_14 : decode cJ6_bitCount_0f7a4 14 = .ok (.iand, 1) := by decide +kernel
theorem dJ6_bitCount_0f7a4_15 : decode cJ6_bitCount_0f7a4 15 = .ok (.iload_n 0, 1) := by decide +kernel
theorem dJ6_bitCount_0f7a4_16 : decode cJ6_bitCount_0f7a4 16 = .ok (.iconst 2, 1) := by decide +kernel
theorem dJ6_bitCount_0f7a4_17 : decode cJ6_bitCount_0f7a4 17 = .ok (.iushr, 1) := by decide +kernel
theorem dJ6_bitCount_0f7a4_18 : decode cJ6_bitCount_0f7a4 18 = .ok (.ldc_w 266, 3) := by decide +kernel
theorem dJ6_bitCount_0f7a4_21 : decode cJ6_bitCount_0f7a4 21 = .ok (.iand, 1) := by decide +kernel
theorem dJ6_bitCount_0f7a4_22 : decode cJ6_bitCount_0f7a4 22 = .ok (.iadd, 1) := by decide +kernel
theorem dJ6_bitCount_0f7a4_23 : decode cJ6_bitCount_0f7a4 23 = .ok (.istore_n 0, 1) := by decide +kernel
theorem dJ6_bitCount_0f7a4_24 : decode cJ6_bitCount_0f7a4 24 = .ok (.iload_n 0, 1) := by decide +kernel
theorem dJ6_bitCount_0f7a4_25 : decode cJ6_bitCount_0f7a4 25 = .ok (.iload_n 0, 1) := by decide +kernel
theorem dJ6_bitCount_0f7a4_26 : decode cJ6_bitCount_0f7a4 26 = .ok (.iconst 4, 1) := by decide +kernel
theorem dJ6_bitCount_0f7a4_27 : decode cJ6_bitCount_0f7a4 27 = .ok (.iushr, 1) := by decide +kernel
theorem dJ6_bitCount_0f7a4_28 : decode cJ6_bitCount_0f7a4 28 = .ok (.iadd, 1) := by decide +kernel
theorem dJ6_bitCount_0f7a4_29 : decode cJ6_bitCount_0f7a4 29 = .ok (.ldc_w 267, 3) := by decide +kernel
theorem dJ6_bitCount_0f7a4_32 : decode cJ6_bitCount_0f7a4 32 = .ok (.iand, 1) := by decide +kernel
theorem dJ6_bitCount_0f7a4_33 : decode cJ6_bitCount_0f7a4 33 = .ok (.istore_n 0, 1) := by decide +kernel
theorem dJ6_bitCount_0f7a4_34 : decode cJ6_bitCount_0f7a4 34 = .ok (.iload_n 0, 1) := by decide +kernel
theorem dJ6_bitCount_0f7a4_35 : decode cJ6_bitCount_0f7a4 35 = .ok (.iload_n 0, 1) := by decide +kernel
theorem dJ6_bitCount_0f7a4_36 : decode cJ6_bitCount_0f7a4 36 = .ok (.bipush 8, 2) := by decide +kernel
theorem dJ6_bitCount_0f7a4_38 : decode cJ6_bitCount_0f7a4 38 = .ok (.iushr, 1) := by decide +kernel
theorem dJ6_bitCount_0f7a4_39 : decode cJ6_bitCount_0f7a4 39 = .ok (.iadd, 1) := by decide +kernel
theorem dJ6_bitCount_0f7a4_40 : decode cJ6_bitCount_0f7a4 40 = .ok (.istore_n 0, 1) := by decide +kernel
theorem dJ6_bitCount_0f7a4_41 : decode cJ6_bitCount_0f7a4 41 = .ok (.iload_n 0, 1) := by decide +kernel
theorem dJ6_bitCount_0f7a4_42 : decode cJ6_bitCount_0f7a4 42 = .ok (.iload_n 0, 1) := by decide +kernel
theorem dJ6_bitCount_0f7a4_43 : decode cJ6_bitCount_0f7a4 43 = .ok (.bipush 16, 2) := by decide +kernel
theorem dJ6_bitCount_0f7a4_45 : decode cJ6_bitCount_0f7a4 45 = .ok (.iushr, 1) := by decide +kernel
theorem dJ6_bitCount_0f7a4_46 : decode cJ6_bitCount_0f7a4 46 = .ok (.iadd, 1) := by decide +kernel
theorem dJ6_bitCount_0f7a4_47 : decode cJ6_bitCount_0f7a4 47 = .ok (.istore_n 0, 1) := by decide +kernel
theorem dJ6_bitCount_0f7a4_48 : decode cJ6_bitCount_0f7a4 48 = .ok (.iload_n 0, 1) := by decide +kernel
theorem dJ6_bitCount_0f7a4_49 : decode cJ6_bitCount_0f7a4 49 = .ok (.bipush 63, 2) := by decide +kernel
theorem dJ6_bitCount_0f7a4_51 : decode cJ6_bitCount_0f7a4 51 = .ok (.iand, 1) := by decide +kernel
theorem dJ6_bitCount_0f7a4_52 : decode cJ6_bitCount_0f7a4 52 = .ok (.ireturn, 1) := by decide +kernel
theorem dJ13_bitCount_95d88_0 : decode cJ13_bitCount_95d88 0 = .ok (.lload_n 0, 1) := by decide +kernel
theorem dJ13_bitCount_95d88_1 : decode cJ13_bitCount_95d88 1 = .ok (.lload_n 0, 1) := by decide +kernel
theorem dJ13_bitCount_95d88_2 : decode cJ13_bitCount_95d88 2 = .ok (.iconst 1, 1) := by decide +kernel
theorem dJ13_bitCount_95d88_3 : decode cJ13_bitCount_95d88 3 = .ok (.lushr, 1) := by decide +kernel
theorem dJ13_bitCount_95d88_4 : decode cJ13_bitCount_95d88 4 = .ok (.ldc2_w 314, 3) := by decide +kernel
theorem dJ13_bitCount_95d88_7 : decode cJ13_bitCount_95d88 7 = .ok (.land, 1) := by decide +kernel
theorem dJ13_bitCount_95d88_8 : decode cJ13_bitCount_95d88 8 = .ok (.lsub, 1) := by decide +kernel
theorem dJ13_bitCount_95d88_9 : decode cJ13_bitCount_95d88 9 = .ok (.lstore_n 0, 1) := by decide +kernel
theorem dJ13_bitCount_95d88_10 : decode cJ13_bitCount_95d88 10 = .ok (.lload_n 0, 1) := by decide +kernel
theorem dJ13_bitCount_95d88_11 : decode cJ13_bitCount_95d88 11 = .ok (.ldc2_w 316, 3) := by decide +kernel
theorem dJ13_bitCount_95d88_14 : decode cJ13_bitCount_95d88 14 = .ok (.land, 1) := by decide +kernel
theorem dJ13_bitCount_95d88_15 : decode cJ13_bitCount_95d88 15 = .ok (.lload_n 0, 1) := by decide +kernel
theorem dJ13_bitCount_95d88_16 : decode cJ13_bitCount_95d88 16 = .ok (.iconst 2, 1) := by decide +kernel
theorem dJ13_bitCount_95d88_17 : decode cJ13_bitCount_95d88 17 = .ok (.lushr, 1) := by decide +kernel
theorem dJ13_bitCount_95d88_18 : decode cJ13_bitCount_95d88 18 = .ok (.ldc2_w 316, 3) := by decide +kernel
theorem dJ13_bitCount_95d88_21 : decode cJ13_bitCount_95d88 21 = .ok (.land, 1) := by decide +kernel
theorem dJ13_bitCount_95d88_22 : decode cJ13_bitCount_95d88 22 = .ok (.ladd, 1) := by decide +kernel
theorem dJ13_bitCount_95d88_23 : decode cJ13_bitCount_95d88 23 = .ok (.lstore_n 0, 1) := by decide +kernel
theorem dJ13_bitCount_95d88_24 : decode cJ13_bitCount_95d88 24 = .ok (.lload_n 0, 1) := by decide +kernel
theorem dJ13_bitCount_95d88_25 : decode cJ13_bitCount_95d88 25 = .ok (.lload_n 0, 1) := by decide +kernel
theorem dJ13_bitCount_95d88_26 : decode cJ13_bitCount_95d88 26 = .ok (.iconst 4, 1) := by decide +kernel
theorem dJ13_bitCount_95d88_27 : decode cJ13_bitCount_95d88 27 = .ok (.lushr, 1) := by decide +kernel
theorem dJ13_bitCount_95d88_28 : decode cJ13_bitCount_95d88 28 = .ok (.ladd, 1) := by decide +kernel
theorem dJ13_bitCount_95d88_29 : decode cJ13_bitCount_95d88 29 = .ok (.ldc2_w 318, 3) := by decide +kernel
theorem dJ13_bitCount_95d88_32 : decode cJ13_bitCount_95d88 32 = .ok (.land, 1) := by decide +kernel
theorem dJ13_bitCount_95d88_33 : decode cJ13_bitCount_95d88 33 = .ok (.lstore_n 0, 1) := by decide +kernel
theorem dJ13_bitCount_95d88_34 : decode cJ13_bitCount_95d88 34 = .ok (.lload_n 0, 1) := by decide +kernel
theorem dJ13_bitCount_95d88_35 : decode cJ13_bitCount_95d88 35 = .ok (.lload_n 0, 1) := by decide +kernel
theorem dJ13_bitCount_95d88_36 : decode cJ13_bitCount_95d88 36 = .ok (.bipush 8, 2) := by decide +kernel
theorem dJ13_bitCount_95d88_38 : decode cJ13_bitCount_95d88 38 = .ok (.lushr, 1) := by decide +kernel
theorem dJ13_bitCount_95d88_39 : decode cJ13_bitCount_95d88 39 = .ok (.ladd, 1) := by decide +kernel
theorem dJ13_bitCount_95d88_40 : decode cJ13_bitCount_95d88 40 = .ok (.lstore_n 0, 1) := by decide +kernel
theorem dJ13_bitCount_95d88_41 : decode cJ13_bitCount_95d88 41 = .ok (.lload_n 0, 1) := by decide +kernel
theorem dJ13_bitCount_95d88_42 : decode cJ13_bitCount_95d88 42 = .ok (.lload_n 0, 1) := by decide +kernel
theorem dJ13_bitCount_95d88_43 : decode cJ13_bitCount_95d88 43 = .ok (.bipush 16, 2) := by decide +kernel
theorem dJ13_bitCount_95d88_45 : decode cJ13_bitCount_95d88 45 = .ok (.lushr, 1) := by decide +kernel
theorem dJ13_bitCount_95d88_46 : decode cJ13_bitCount_95d88 46 = .ok (.ladd, 1) := by decide +kernel
theorem dJ13_bitCount_95d88_47 : decode cJ13_bitCount_95d88 47 = .ok (.lstore_n 0, 1) := by decide +kernel
theorem dJ13_bitCount_95d88_48 : decode cJ13_bitCount_95d88 48 = .ok (.lload_n 0, 1) := by decide +kernel
theorem dJ13_bitCount_95d88_49 : decode cJ13_bitCount_95d88 49 = .ok (.lload_n 0, 1) := by decide +kernel
theorem dJ13_bitCount_95d88_50 : decode cJ13_bitCount_95d88 50 = .ok (.bipush 32, 2) := by decide +kernel
theorem dJ13_bitCount_95d88_52 : decode cJ13_bitCount_95d88 52 = .ok (.lushr, 1) := by decide +kernel
theorem dJ13_bitCount_95d88_53 : decode cJ13_bitCount_95d88 53 = .ok (.ladd, 1) := by decide +kernel
theorem dJ13_bitCount_95d88_54 : decode cJ13_bitCount_95d88 54 = .ok (.lstore_n 0, 1) := by decide +kernel
theorem dJ13_bitCount_95d88_55 : decode cJ13_bitCount_95d88 55 = .ok (.lload_n 0, 1) := by decide +kernel
theorem dJ13_bitCount_95d88_56 : decode cJ13_bitCount_95d88 56 = .ok (.l2i, 1) := by decide +kernel
theorem dJ13_bitCount_95d88_57 : decode cJ13_bitCount_95d88 57 = .ok (.bipush 127, 2) := by decide +kernel
theorem dJ13_bitCount_95d88_59 : decode cJ13_bitCount_95d88 59 = .ok (.iand, 1) := by decide +kernel
theorem dJ13_bitCount_95d88_60 : decode cJ13_bitCount_95d88 60 = .ok (.ireturn, 1) := by decide +kernel
theorem dJ9_floorMod_7cf53_0 : decode cJ9_floorMod_7cf53 0 = .ok (.iload_n 0, 1) := by decide +kernel
theorem dJ9_floorMod_7cf53_1 : decode cJ9_floorMod_7cf53 1 = .ok (.iload_n 1, 1) := by decide +kernel
theorem dJ9_floorMod_7cf53_2 : decode cJ9_floorMod_7cf53 2 = .ok (.irem, 1) := by decide +kernel
theorem dJ9_floorMod_7cf53_3 : decode cJ9_floorMod_7cf53 3 = .ok (.istore_n 2, 1) := by decide +kernel
theorem dJ9_floorMod_7cf53_4 : decode cJ9_floorMod_7cf53 4 = .ok (.iload_n 0, 1) := by decide +kernel
theorem dJ9_floorMod_7cf53_5 : decode cJ9_floorMod_7cf53 5 = .ok (.iload_n 1, 1) := by decide +kernel
theorem dJ9_floorMod_7cf53_6 : decode cJ9_floorMod_7cf53 6 = .ok (.ixor, 1) := by decide +kernel
theorem dJ9_floorMod_7cf53_7 : decode cJ9_floorMod_7cf53 7 = .ok (.ifCond .ge 11, 3) := by decide +kernel
theorem dJ9_floorMod_7cf53_10 : decode cJ9_floorMod_7cf53 10 = .ok (.iload_n 2, 1) := by decide +kernel
theorem dJ9_floorMod_7cf53_11 : decode cJ9_floorMod_7cf53 11 = .ok (.ifCond .eq 7, 3) := by decide +kernel
theorem dJ9_floorMod_7cf53_14 : decode cJ9_floorMod_7cf53 14 = .ok (.iload_n 2, 1) := by decide +kernel
theorem dJ9_floorMod_7cf53_15 : decode cJ9_floorMod_7cf53 15 = .ok (.iload_n 1, 1) := by decide +kernel
theorem dJ9_floorMod_7cf53_16 : decode cJ9_floorMod_7cf53 16 = .ok (.iadd, 1) := by decide +kernel
theorem dJ9_floorMod_7cf53_17 : decode cJ9_floorMod_7cf53 17 = .ok (.ireturn, 1) := by decide +kernel
theorem dJ9_floorMod_7cf53_18 : decode cJ9_floorMod_7cf53 18 = .ok (.iload_n 2, 1) := by decide +kernel
theorem dJ9_floorMod_7cf53_19 : decode cJ9_floorMod_7cf53 19 = .ok (.ireturn, 1) := by decide +kernel
theorem dJ9_abs_0f7a4_0 : decode cJ9_abs_0f7a4 0 = .ok (.iload_n 0, 1) := by decide +kernel
theorem dJ9_abs_0f7a4_1 : decode cJ9_abs_0f7a4 1 = .ok (.ifCond .ge 8, 3) := by decide +kernel
theorem dJ9_abs_0f7a4_4 : decode cJ9_abs_0f7a4 4 = .ok (.iload_n 0, 1) := by decide +kernel
theorem dJ9_abs_0f7a4_5 : decode cJ9_abs_0f7a4 5 = .ok (.ineg, 1) := by decide +kernel
theorem dJ9_abs_0f7a4_6 : decode cJ9_abs_0f7a4 6 = .ok (.goto 4, 3) := by decide +kernel
theorem dJ9_abs_0f7a4_9 : decode cJ9_abs_0f7a4 9 = .ok (.iload_n 0, 1) := by decide +kernel
theorem dJ9_abs_0f7a4_10 : decode cJ9_abs_0f7a4 10 = .ok (.ireturn, 1) := by decide +kernel
theorem dJ9_max_7cf53_0 : decode cJ9_max_7cf53 0 = .ok (.iload_n 0, 1) := by decide +kernel
theorem dJ9_max_7cf53_1 : decode cJ9_max_7cf53 1 = .ok (.iload_n 1, 1) := by decide +kernel
theorem dJ9_max_7cf53_2 : decode cJ9_max_7cf53 2 = .ok (.if_icmp .lt 7, 3) := by decide +kernel
theorem dJ9_max_7cf53_5 : decode cJ9_max_7cf53 5 = .ok (.iload_n 0, 1) := by decide +kernel
theorem dJ9_max_7cf53_6 : decode cJ9_max_7cf53 6 = .ok (.goto 4, 3) := by decide +kernel
theorem dJ9_max_7cf53_9 : decode cJ9_max_7cf53 9 = .ok (.iload_n 1, 1) := by decide +kernel
theorem dJ9_max_7cf53_10 : decode cJ9_max_7cf53 10 = .ok (.ireturn, 1) := by decide +kernel
theorem dJ9_min_7cf53_0 : decode cJ9_min_7cf53 0 = .ok (.iload_n 0, 1) := by decide +kernel
theorem dJ9_min_7cf53_1 : decode cJ9_min_7cf53 1 = .ok (.iload_n 1, 1) := by decide +kernel
theorem dJ9_min_7cf53_2 : decode cJ9_min_7cf53 2 = .ok (.if_icmp .gt 7, 3) := by decide +kernel
theorem dJ9_min_7cf53_5 : decode cJ9_min_7cf53 5 = .ok (.iload_n 0, 1) := by decide +kernel
theorem dJ9_min_7cf53_6 : decode cJ9_min_7cf53 6 = .ok (.goto 4, 3) := by decide +kernel
theorem dJ9_min_7cf53_9 : decode cJ9_min_7cf53 9 = .ok (.iload_n 1, 1) := by decide +kernel
theorem dJ9_min_7cf53_10 : decode cJ9_min_7cf53 10 = .ok (.ireturn, 1) := by decide +kernel

theorem dX10_next_51 : decode cX10_next 51 = .ok (.putfield 98, 3) := by decide +kernel
theorem dX10_next_54 : decode cX10_next 54 = .ok (.aload_n 0, 1) := by decide +kernel
theorem dX10_next_55 : decode cX10_next 55 = .ok (.invokevirtual 94, 3) := by decide +kernel
theorem dX10_next_58 : decode cX10_next 58 = .ok (.ifCond .eq 16, 3) := by decide +kernel
theorem dX10_next_61 : decode cX10_next 61 = .ok (.aload_n 0, 1) := by decide +kernel
theorem dX10_next_62 : decode cX10_next 62 = .ok (.dup, 1) := by decide +kernel
theorem dX10_next_63 : decode cX10_next 63 = .ok (.getfield 82, 3) := by decide +kernel
theorem dX10_next_66 : decode cX10_next 66 = .ok (.iconst 1, 1) := by decide +kernel
theorem dX10_next_67 : decode cX10_next 67 = .ok (.iadd, 1) := by decide +kernel
theorem dX10_next_68 : decode cX10_next 68 = .ok (.putfield 82, 3) := by decide +kernel
theorem dX10_next_71 : decode cX10_next 71 = .ok (.goto (-17), 3) := by decide +kernel
theorem dX10_next_74 : decode cX10_next 74 = .ok (.aload_n 0, 1) := by decide +kernel
theorem dX10_next_75 : decode cX10_next 75 = .ok (.aload_n 0, 1) := by decide +kernel
theorem dX10_next_76 : decode cX10_next 76 = .ok (.getfield 82, 3) := by decide +kernel
theorem dX10_next_79 : decode cX10_next 79 = .ok (.aload_n 0, 1) := by decide +kernel
theorem dX10_next_80 : decode cX10_next 80 = .ok (.getfield 88, 3) := by decide +kernel
theorem dX10_next_83 : decode cX10_next 83 = .ok (.isub, 1) := by decide +kernel
theorem dX10_next_84 : decode cX10_next 84 = .ok (.iconst 1, 1) := by decide +kernel
theorem dX10_next_85 : decode cX10_next 85 = .ok (.if_icmp .le 8, 3) := by decide +kernel
theorem dX10_next_88 : decode cX10_next 88 = .ok (.bipush (-2), 2) := by decide +kernel
theorem dX10_next_90 : decode cX10_next 90 = .ok (.goto 4, 3) := by decide +kernel
theorem dX10_next_93 : decode cX10_next 93 = .ok (.iconst 0, 1) := by decide +kernel
theorem dX10_next_94 : decode cX10_next 94 = .ok (.putfield 91, 3) := by decide +kernel
theorem dX10_next_97 : decode cX10_next 97 = .ok (.goto 46, 3) := by decide +kernel
theorem dX10_next_100 : decode cX10_next 100 = .ok (.aload_n 0, 1) := by decide +kernel
theorem dX10_next_101 : decode cX10_next 101 = .ok (.aload_n 0, 1) := by decide +kernel
theorem dX10_next_102 : decode cX10_next 102 = .ok (.getfield 38, 3) := by decide +kernel
theorem dX10_next_105 : decode cX10_next 105 = .ok (.aload_n 0, 1) := by decide +kernel
theorem dX10_next_106 : decode cX10_next 106 = .ok (.getfield 82, 3) := by decide +kernel
theorem dX10_next_109 : decode cX10_next 109 = .ok (.iaload, 1) := by decide +kernel
theorem dX10_next_110 : decode cX10_next 110 = .ok (.invokestatic 101, 3) := by decide +kernel
theorem dX10_next_113 : decode cX10_next 113 = .ok (.ifCond .eq 15, 3) := by decide +kernel
theorem dX10_next_116 : decode cX10_next 116 = .ok (.aload_n 0, 1) := by decide +kernel
theorem dX10_next_117 : decode cX10_next 117 = .ok (.getfield 38, 3) := by decide +kernel
theorem dX10_next_120 : decode cX10_next 120 = .ok (.aload_n 0, 1) := by decide +kernel
theorem dX10_next_121 : decode cX10_next 121 = .ok (.getfield 82, 3) := by decide +kernel
theorem dX10_next_124 : decode cX10_next 124 = .ok (.iaload, 1) := by decide +kernel
theorem dX10_next_125 : decode cX10_next 125 = .ok (.goto 5, 3) := by decide +kernel
theorem dX10_next_128 : decode cX10_next 128 = .ok (.bipush (-2), 2) := by decide +kernel
theorem dX10_next_130 : decode cX10_next 130 = .ok (.putfield 91, 3) := by decide +kernel
theorem dX10_next_133 : decode cX10_next 133 = .ok (.aload_n 0, 1) := by decide +kernel
theorem dX10_next_134 : decode cX10_next 134 = .ok (.dup, 1) := by decide +kernel
theorem dX10_next_135 : decode cX10_next 135 = .ok (.getfield 82, 3) := by decide +kernel
theorem dX10_next_138 : decode cX10_next 138 = .ok (.iconst 1, 1) := by decide +kernel
theorem dX10_next_139 : decode cX10_next 139 = .ok (.iadd, 1) := by decide +kernel
theorem dX10_next_140 : decode cX10_next 140 = .ok (.putfield 82, 3) := by decide +kernel
theorem dX10_next_143 : decode cX10_next 143 = .ok (.return_, 1) := by decide +kernel
theorem dX10_fails_0 : decode cX10_fails 0 = .ok (.aload_n 0, 1) := by decide +kernel
theorem dX10_fails_1 : decode cX10_fails 1 = .ok (.aload_n 0, 1) := by decide +kernel
theorem dX10_fails_2 : decode cX10_fails 2 = .ok (.getfield 88, 3) := by decide +kernel
theorem dX10_fails_5 : decode cX10_fails 5 = .ok (.putfield 105, 3) := by decide +kernel
theorem dX10_fails_8 : decode cX10_fails 8 = .ok (.iconst 0, 1) := by decide +kernel
theorem dX10_fails_9 : decode cX10_fails 9 = .ok (.ireturn, 1) := by decide +kernel
set_option maxRecDepth 20000 in
theorem ggX10_number_X10_next : GoodIn wsX10_number wsX10_next := goodIn_r _ [7, 8, 9, 10, 1, 11, 2, 12, 13, 14, 6, 15, 16, 17, 18, 19, 20, 21, 22, 23, 24, 25, 31, 32, 33, 34, 35, 36, 37, 38, 39, 40, 41, 42, 43, 44, 45, 46, 47, 48, 49, 50, 51, 52, 53, 54, 55, 56, 57, 58, 59, 60, 61, 62, 63, 64, 65, 66, 67] (by decide +kernel) (by decide +kernel)
set_option maxRecDepth 20000 in
theorem gX10_number_X10_next : GoodIn wsX10_number (wsV RX10 108 RX10 yX10_next wsX10_next) := goodIn_app (goodIn_of _ (by decide +kernel)) ggX10_number_X10_next
set_option maxRecDepth 20000 in
theorem ggX10_number_X10_in : GoodIn wsX10_number wsX10_in := goodIn_r _ [22] (by decide +kernel) (by decide +kernel)
set_option maxRecDepth 20000 in
theorem gX10_number_X10_in : GoodIn wsX10_number (va_wsS RX10 74 yX10_in wsX10_in) := goodIn_app (goodIn_of _ (by decide +kernel)) ggX10_number_X10_in
set_option maxRecDepth 20000 in
theorem ggX10_number_X10_fails : GoodIn wsX10_number wsX10_fails := goodIn_r _ [29, 9, 30, 31, 32, 33, 34, 35, 36, 37, 38, 39, 40, 41, 42, 43, 44, 45, 46, 47, 48, 49, 50, 51, 52, 53, 54, 55, 56, 57, 58, 59, 60, 61, 62, 63, 64, 65, 66, 67] (by decide +kernel) (by decide +kernel)
set_option maxRecDepth 20000 in
theorem gX10_number_X10_fails : GoodIn wsX10_number (wsV RX10 111 RX10 yX10_fails wsX10_fails) := goodIn_app (goodIn_of _ (by decide +kernel)) ggX10_number_X10_fails
theorem dX10_number_0 : decode cX10_number 0 = .ok (.aload_n 0, 1) := by decide +kernel
theorem dX10_number_1 : decode cX10_number 1 = .ok (.invokevirtual 108, 3) := by decide +kernel
theorem dX10_number_4 : decode cX10_number 4 = .ok (.aload_n 0, 1) := by decide +kernel
theorem dX10_number_5 : decode cX10_number 5 = .ok (.getfield 91, 3) := by decide +kernel
theorem dX10_number_8 : decode cX10_number 8 = .ok (.ifCond .ne 15, 3) := by decide +kernel
theorem dX10_number_11 : decode cX10_number 11 = .ok (.aload_n 0, 1) := by decide +kernel
theorem dX10_number_12 : decode cX10_number 12 = .ok (.getfield 98, 3) := by decide +kernel
theorem dX10_number_15 : decode cX10_number 15 = .ok (.iload_n 1, 1) := by decide +kernel
theorem dX10_number_16 : decode cX10_number 16 = .ok (.iload_n 2, 1) := by decide +kernel
theorem dX10_number_17 : decode cX10_number 17 = .ok (.invokestatic 74, 3) := by decide +kernel
theorem dX10_number_20 : decode cX10_number 20 = .ok (.ifCond .ne 10, 3) := by decide +kernel
theorem dX10_number_23 : decode cX10_number 23 = .ok (.aload_n 0, 1) := by decide +kernel
theorem dX10_number_24 : decode cX10_number 24 = .ok (.invokevirtual 111, 3) := by decide +kernel
theorem dX10_number_27 : decode cX10_number 27 = .ok (.ifCond .eq 7, 3) := by decide +kernel
theorem dX10_number_30 : decode cX10_number 30 = .ok (.iconst 1, 1) := by decide +kernel
theorem dX10_number_31 : decode cX10_number 31 = .ok (.goto 4, 3) := by decide +kernel
theorem dX10_number_34 : decode cX10_number 34 = .ok (.iconst 0, 1) := by decide +kernel
theorem dX10_number_35 : decode cX10_number 35 = .ok (.ireturn, 1) := by decide +kernel
set_option maxRecDepth 20000 in
theorem ggX10_readsSign_X10_fails : GoodIn wsX10_readsSign wsX10_fails := goodIn_r _ [8, 9, 10, 37, 38, 39, 40, 41, 42, 43, 44, 45, 46, 47, 48, 49, 50, 51, 52, 53, 54, 55, 56, 57, 58, 59, 60, 61, 62, 63, 64, 65, 66, 67, 68, 69, 70, 71, 72, 73] (by decide +kernel) (by decide +kernel)
set_option maxRecDepth 20000 in
theorem gX10_readsSign_X10_fails : GoodIn wsX10_readsSign (wsV RX10 111 RX10 yX10_fails wsX10_fails) := goodIn_app (goodIn_of _ (by decide +kernel)) ggX10_readsSign_X10_fails
set_option maxRecDepth 20000 in
theorem ggX10_readsSign_X10_number : GoodIn wsX10_readsSign wsX10_number := goodIn_r _ [14, 15, 3, 16, 17, 18, 7, 19, 20, 9, 21, 22, 23, 24, 25, 26, 27, 28, 29, 30, 31, 32, 33, 34, 35, 36, 4, 5, 6, 8, 10, 37, 38, 39, 40, 41, 42, 43, 44, 45, 46, 47, 48, 49, 50, 51, 52, 53, 54, 55, 56, 57, 58, 59, 60, 61, 62, 63, 64, 65, 66, 67, 68, 69, 70, 71, 72, 73] (by decide +kernel) (by decide +kernel)
set_option maxRecDepth 20000 in
theorem gX10_readsSign_X10_number : GoodIn wsX10_readsSign (wsV RX10 117 RX10 yX10_number wsX10_number) := goodIn_app (goodIn_of _ (by decide +kernel)) ggX10_readsSign_X10_number
theorem dX10_readsSign_0 : decode cX10_readsSign 0 = .ok (.bipush 11, 2) := by decide +kernel
theorem dX10_readsSign_2 : decode cX10_readsSign 2 = .ok (.aload_n 0, 1) := by decide +kernel
theorem dX10_readsSign_3 : decode cX10_readsSign 3 = .ok (.getfield 114, 3) := by decide +kernel
theorem dX10_readsSign_6 : decode cX10_readsSign 6 = .ok (.imul, 1) := by decide +kernel
theorem dX10_readsSign_7 : decode cX10_readsSign 7 = .ok (.istore_n 2, 1) := by decide +kernel
theorem dX10_readsSign_8 : decode cX10_readsSign 8 = .ok (.aload_n 0, 1) := by decide +kernel
theorem dX10_readsSign_9 : decode cX10_readsSign 9 = .ok (.getfield 50, 3) := by decide +kernel
theorem dX10_readsSign_12 : decode cX10_readsSign 12 = .ok (.iload_n 2, 1) := by decide +kernel
theorem dX10_readsSign_13 : decode cX10_readsSign 13 = .ok (.iaload, 1) := by decide +kernel
theorem dX10_readsSign_14 : decode cX10_readsSign 14 = .ok (.bipush 10, 2) := by decide +kernel
theorem dX10_readsSign_16 : decode cX10_readsSign 16 = .ok (.if_icmp .ne 8, 3) := by decide +kernel
theorem dX10_readsSign_19 : decode cX10_readsSign 19 = .ok (.aload_n 0, 1) := by decide +kernel
theorem dX10_readsSign_20 : decode cX10_readsSign 20 = .ok (.invokevirtual 111, 3) := by decide +kernel
theorem dX10_readsSign_23 : decode cX10_readsSign 23 = .ok (.ireturn, 1) := by decide +kernel
theorem dX10_readsSign_24 : decode cX10_readsSign 24 = .ok (.iload_n 1, 1) := by decide +kernel
theorem dX10_readsSign_25 : decode cX10_readsSign 25 = .ok (.bipush 46, 2) := by decide +kernel
theorem dX10_readsSign_27 : decode cX10_readsSign 27 = .ok (.if_icmp .ne 7, 3) := by decide +kernel
theorem dX10_readsSign_30 : decode cX10_readsSign 30 = .ok (.iconst 0, 1) := by decide +kernel
theorem dX10_readsSign_31 : decode cX10_readsSign 31 = .ok (.goto 58, 3) := by decide +kernel
theorem dX10_readsSign_34 : decode cX10_readsSign 34 = .ok (.iload_n 1, 1) := by decide +kernel
theorem dX10_readsSign_35 : decode cX10_readsSign 35 = .ok (.bipush 99, 2) := by decide +kernel
theorem dX10_readsSign_37 : decode cX10_readsSign 37 = .ok (.if_icmp .ne 7, 3) := by decide +kernel
theorem dX10_readsSign_40 : decode cX10_readsSign 40 = .ok (.iconst 1, 1) := by decide +kernel
theorem dX10_readsSign_41 : decode cX10_readsSign 41 = .ok (.goto 48, 3) := by decide +kernel
theorem dX10_readsSign_44 : decode cX10_readsSign 44 = .ok (.iload_n 1, 1) := by decide +kernel
theorem dX10_readsSign_45 : decode cX10_readsSign 45 = .ok (.bipush 108, 2) := by decide +kernel
theorem dX10_readsSign_47 : decode cX10_readsSign 47 = .ok (.if_icmp .ne 7, 3) := by decide +kernel
theorem dX10_readsSign_50 : decode cX10_readsSign 50 = .ok (.iconst 2, 1) := by decide +kernel
theorem dX10_readsSign_51 : decode cX10_readsSign 51 = .ok (.goto 38, 3) := by decide +kernel
theorem dX10_readsSign_54 : decode cX10_readsSign 54 = .ok (.iload_n 1, 1) := by decide +kernel
theorem dX10_readsSign_55 : decode cX10_readsSign 55 = .ok (.bipush 114, 2) := by decide +kernel
theorem dX10_readsSign_57 : decode cX10_readsSign 57 = .ok (.if_icmp .ne 8, 3) := by decide +kernel
theorem dX10_readsSign_60 : decode cX10_readsSign 60 = .ok (.bipush 10, 2) := by decide +kernel
theorem dX10_readsSign_62 : decode cX10_readsSign 62 = .ok (.goto 27, 3) := by decide +kernel
theorem dX10_readsSign_65 : decode cX10_readsSign 65 = .ok (.iload_n 1, 1) := by decide +kernel
theorem dX10_readsSign_66 : decode cX10_readsSign 66 = .ok (.bipush 106, 2) := by decide +kernel
theorem dX10_readsSign_68 : decode cX10_readsSign 68 = .ok (.if_icmp .ne 8, 3) := by decide +kernel
theorem dX10_readsSign_71 : decode cX10_readsSign 71 = .ok (.bipush 18, 2) := by decide +kernel
theorem dX10_readsSign_73 : decode cX10_readsSign 73 = .ok (.goto 16, 3) := by decide +kernel
theorem dX10_readsSign_76 : decode cX10_readsSign 76 = .ok (.iload_n 1, 1) := by decide +kernel
theorem dX10_readsSign_77 : decode cX10_readsSign 77 = .ok (.bipush 116, 2) := by decide +kernel
theorem dX10_readsSign_79 : decode cX10_readsSign 79 = .ok (.if_icmp .ne 8, 3) := by decide +kernel
theorem dX10_readsSign_82 : decode cX10_readsSign 82 = .ok (.bipush 26, 2) := by decide +kernel
theorem dX10_readsSign_84 : decode cX10_readsSign 84 = .ok (.goto 5, 3) := by decide +kernel
theorem dX10_readsSign_87 : decode cX10_readsSign 87 = .ok (.bipush (-9), 2) := by decide +kernel
theorem dX10_readsSign_89 : decode cX10_readsSign 89 = .ok (.istore_n 3, 1) := by decide +kernel
theorem dX10_readsSign_90 : decode cX10_readsSign 90 = .ok (.iload_n 3, 1) := by decide +kernel
theorem dX10_readsSign_91 : decode cX10_readsSign 91 = .ok (.bipush (-9), 2) := by decide +kernel
theorem dX10_readsSign_93 : decode cX10_readsSign 93 = .ok (.if_icmp .ne 8, 3) := by decide +kernel
theorem dX10_readsSign_96 : decode cX10_readsSign 96 = .ok (.aload_n 0, 1) := by decide +kernel
theorem dX10_readsSign_97 : decode cX10_readsSign 97 = .ok (.invokevirtual 111, 3) := by decide +kernel
theorem dX10_readsSign_100 : decode cX10_readsSign 100 = .ok (.ireturn, 1) := by decide +kernel
theorem dX10_readsSign_101 : decode cX10_readsSign 101 = .ok (.iload_n 3, 1) := by decide +kernel
theorem dX10_readsSign_102 : decode cX10_readsSign 102 = .ok (.iconst 1, 1) := by decide +kernel
theorem dX10_readsSign_103 : decode cX10_readsSign 103 = .ok (.if_icmp .le 47, 3) := by decide +kernel
theorem dX10_readsSign_106 : decode cX10_readsSign 106 = .ok (.aload_n 0, 1) := by decide +kernel
theorem dX10_readsSign_107 : decode cX10_readsSign 107 = .ok (.iload_n 3, 1) := by decide +kernel
theorem dX10_readsSign_108 : decode cX10_readsSign 108 = .ok (.bipush 26, 2) := by decide +kernel
theorem dX10_readsSign_110 : decode cX10_readsSign 110 = .ok (.if_icmp .ne 7, 3) := by decide +kernel
theorem dX10_readsSign_113 : decode cX10_readsSign 113 = .ok (.iconst 1, 1) := by decide +kernel
theorem dX10_readsSign_114 : decode cX10_readsSign 114 = .ok (.goto 4, 3) := by decide +kernel
theorem dX10_readsSign_117 : decode cX10_readsSign 117 = .ok (.iconst 0, 1) := by decide +kernel
theorem dX10_readsSign_118 : decode cX10_readsSign 118 = .ok (.bipush 7, 2) := by decide +kernel
theorem dX10_readsSign_120 : decode cX10_readsSign 120 = .ok (.invokevirtual 117, 3) := by decide +kernel
theorem dX10_readsSign_123 : decode cX10_readsSign 123 = .ok (.ifCond .ne 5, 3) := by decide +kernel
theorem dX10_readsSign_126 : decode cX10_readsSign 126 = .ok (.iconst 0, 1) := by decide +kernel
theorem dX10_readsSign_127 : decode cX10_readsSign 127 = .ok (.ireturn, 1) := by decide +kernel
theorem dX10_readsSign_128 : decode cX10_readsSign 128 = .ok (.iload_n 3, 1) := by decide +kernel
theorem dX10_readsSign_129 : decode cX10_readsSign 129 = .ok (.iload_n 3, 1) := by decide +kernel
theorem dX10_readsSign_130 : decode cX10_readsSign 130 = .ok (.bipush 26, 2) := by decide +kernel
theorem dX10_readsSign_132 : decode cX10_readsSign 132 = .ok (.if_icmp .ne 12, 3) := by decide +kernel
theorem dX10_readsSign_135 : decode cX10_readsSign 135 = .ok (.aload_n 0, 1) := by decide +kernel
theorem dX10_readsSign_136 : decode cX10_readsSign 136 = .ok (.getfield 98, 3) := by decide +kernel
theorem dX10_readsSign_139 : decode cX10_readsSign 139 = .ok (.iconst 1, 1) := by decide +kernel
theorem dX10_readsSign_140 : decode cX10_readsSign 140 = .ok (.isub, 1) := by decide +kernel
theorem dX10_readsSign_141 : decode cX10_readsSign 141 = .ok (.goto 7, 3) := by decide +kernel
theorem dX10_readsSign_144 : decode cX10_readsSign 144 = .ok (.aload_n 0, 1) := by decide +kernel
theorem dX10_readsSign_145 : decode cX10_readsSign 145 = .ok (.getfield 98, 3) := by decide +kernel
theorem dX10_readsSign_148 : decode cX10_readsSign 148 = .ok (.iadd, 1) := by decide +kernel
theorem dX10_readsSign_149 : decode cX10_readsSign 149 = .ok (.istore_n 3, 1) := by decide +kernel
theorem dX10_readsSign_150 : decode cX10_readsSign 150 = .ok (.aload_n 0, 1) := by decide +kernel
theorem dX10_readsSign_151 : decode cX10_readsSign 151 = .ok (.getfield 50, 3) := by decide +kernel
theorem dX10_readsSign_154 : decode cX10_readsSign 154 = .ok (.iload_n 2, 1) := by decide +kernel
theorem dX10_readsSign_155 : decode cX10_readsSign 155 = .ok (.dup2, 1) := by decide +kernel
theorem dX10_readsSign_156 : decode cX10_readsSign 156 = .ok (.iaload, 1) := by decide +kernel
theorem dX10_readsSign_157 : decode cX10_readsSign 157 = .ok (.iconst 1, 1) := by decide +kernel
theorem dX10_readsSign_158 : decode cX10_readsSign 158 = .ok (.iadd, 1) := by decide +kernel
theorem dX10_readsSign_159 : decode cX10_readsSign 159 = .ok (.iastore, 1) := by decide +kernel
theorem dX10_readsSign_160 : decode cX10_readsSign 160 = .ok (.aload_n 0, 1) := by decide +kernel
theorem dX10_readsSign_161 : decode cX10_readsSign 161 = .ok (.getfield 50, 3) := by decide +kernel
theorem dX10_readsSign_164 : decode cX10_readsSign 164 = .ok (.iload_n 2, 1) := by decide +kernel
theorem dX10_readsSign_165 : decode cX10_readsSign 165 = .ok (.aload_n 0, 1) := by decide +kernel
theorem dX10_readsSign_166 : decode cX10_readsSign 166 = .ok (.getfield 50, 3) := by decide +kernel
theorem dX10_readsSign_169 : decode cX10_readsSign 169 = .ok (.iload_n 2, 1) := by decide +kernel
theorem dX10_readsSign_170 : decode cX10_readsSign 170 = .ok (.iaload, 1) := by decide +kernel
theorem dX10_readsSign_171 : decode cX10_readsSign 171 = .ok (.iadd, 1) := by decide +kernel
theorem dX10_readsSign_172 : decode cX10_readsSign 172 = .ok (.iload_n 3, 1) := by decide +kernel
theorem dX10_readsSign_173 : decode cX10_readsSign 173 = .ok (.iastore, 1) := by decide +kernel
theorem dX10_readsSign_174 : decode cX10_readsSign 174 = .ok (.iconst 1, 1) := by decide +kernel
theorem dX10_readsSign_175 : decode cX10_readsSign 175 = .ok (.ireturn, 1) := by decide +kernel
set_option maxRecDepth 20000 in
theorem ggX10_readsDancer_X10_next : GoodIn wsX10_readsDancer wsX10_next := goodIn_r _ [12, 13, 14, 15, 1, 16, 4, 17, 18, 19, 11, 20, 21, 22, 23, 24, 25, 26, 27, 28, 29, 30, 44, 45, 46, 47, 48, 49, 50, 51, 52, 53, 54, 55, 56, 57, 58, 59, 60, 61, 62, 63, 64, 65, 66, 67, 68, 69, 70, 71, 72, 73, 74, 75, 76, 77, 78, 79, 80] (by decide +kernel) (by decide +kernel)
set_option maxRecDepth 20000 in
theorem gX10_readsDancer_X10_next : GoodIn wsX10_readsDancer (wsV RX10 108 RX10 yX10_next wsX10_next) := goodIn_app (goodIn_of _ (by decide +kernel)) ggX10_readsDancer_X10_next
set_option maxRecDepth 20000 in
theorem ggX10_readsDancer_X10_fails : GoodIn wsX10_readsDancer wsX10_fails := goodIn_r _ [34, 14, 35, 44, 45, 46, 47, 48, 49, 50, 51, 52, 53, 54, 55, 56, 57, 58, 59, 60, 61, 62, 63, 64, 65, 66, 67, 68, 69, 70, 71, 72, 73, 74, 75, 76, 77, 78, 79, 80] (by decide +kernel) (by decide +kernel)
set_option maxRecDepth 20000 in
theorem gX10_readsDancer_X10_fails : GoodIn wsX10_readsDancer (wsV RX10 111 RX10 yX10_fails wsX10_fails) := goodIn_app (goodIn_of _ (by decide +kernel)) ggX10_readsDancer_X10_fails
set_option maxRecDepth 20000 in
theorem ggX10_readsDancer_X10_number : GoodIn wsX10_readsDancer wsX10_number := goodIn_r _ [39, 1, 4, 8, 9, 10, 11, 12, 13, 14, 15, 16, 17, 18, 19, 20, 21, 22, 23, 24, 25, 26, 27, 28, 29, 30, 31, 32, 33, 34, 35, 44, 45, 46, 47, 48, 49, 50, 51, 52, 53, 54, 55, 56, 57, 58, 59, 60, 61, 62, 63, 64, 65, 66, 67, 68, 69, 70, 71, 72, 73, 74, 75, 76, 77, 78, 79, 80] (by decide +kernel) (by decide +kernel)
set_option maxRecDepth 20000 in
theorem gX10_readsDancer_X10_number : GoodIn wsX10_readsDancer (wsV RX10 117 RX10 yX10_number wsX10_number) := goodIn_app (goodIn_of _ (by decide +kernel)) ggX10_readsDancer_X10_number
set_option maxRecDepth 20000 in
theorem ggX10_readsDancer_X10_readsSign : GoodIn wsX10_readsDancer wsX10_readsSign := goodIn_r _ [43, 2, 7, 4, 31, 32, 33, 11, 34, 14, 35, 36, 37, 38, 39, 1, 8, 9, 10, 12, 13, 15, 16, 17, 18, 19, 20, 21, 22, 23, 24, 25, 26, 27, 28, 29, 30, 44, 45, 46, 47, 48, 49, 50, 51, 52, 53, 54, 55, 56, 57, 58, 59, 60, 61, 62, 63, 64, 65, 66, 67, 68, 69, 70, 71, 72, 73, 74, 75, 76, 77, 78, 79, 80] (by decide +kernel) (by decide +kernel)
set_option maxRecDepth 20000 in
theorem gX10_readsDancer_X10_readsSign : GoodIn wsX10_readsDancer (wsV RX10 121 RX10 yX10_readsSign wsX10_readsSign) := goodIn_app (goodIn_of _ (by decide +kernel)) ggX10_readsDancer_X10_readsSign
theorem dX10_readsDancer_0 : decode cX10_readsDancer 0 = .ok (.aload_n 0, 1) := by decide +kernel
theorem dX10_readsDancer_1 : decode cX10_readsDancer 1 = .ok (.invokevirtual 108, 3) := by decide +kernel
theorem dX10_readsDancer_4 : decode cX10_readsDancer 4 = .ok (.aload_n 0, 1) := by decide +kernel
theorem dX10_readsDancer_5 : decode cX10_readsDancer 5 = .ok (.getfield 91, 3) := by decide +kernel
theorem dX10_readsDancer_8 : decode cX10_readsDancer 8 = .ok (.bipush 100, 2) := by decide +kernel
theorem dX10_readsDancer_10 : decode cX10_readsDancer 10 = .ok (.if_icmp .ne 11, 3) := by decide +kernel
theorem dX10_readsDancer_13 : decode cX10_readsDancer 13 = .ok (.aload_n 0, 1) := by decide +kernel
theorem dX10_readsDancer_14 : decode cX10_readsDancer 14 = .ok (.getfield 114, 3) := by decide +kernel
theorem dX10_readsDancer_17 : decode cX10_readsDancer 17 = .ok (.iconst 3, 1) := by decide +kernel
theorem dX10_readsDancer_18 : decode cX10_readsDancer 18 = .ok (.if_icmp .ne 8, 3) := by decide +kernel
theorem dX10_readsDancer_21 : decode cX10_readsDancer 21 = .ok (.aload_n 0, 1) := by decide +kernel
theorem dX10_readsDancer_22 : decode cX10_readsDancer 22 = .ok (.invokevirtual 111, 3) := by decide +kernel
theorem dX10_readsDancer_25 : decode cX10_readsDancer 25 = .ok (.ireturn, 1) := by decide +kernel
theorem dX10_readsDancer_26 : decode cX10_readsDancer 26 = .ok (.aload_n 0, 1) := by decide +kernel
theorem dX10_readsDancer_27 : decode cX10_readsDancer 27 = .ok (.iconst 0, 1) := by decide +kernel
theorem dX10_readsDancer_28 : decode cX10_readsDancer 28 = .ok (.bipush 6, 2) := by decide +kernel
theorem dX10_readsDancer_30 : decode cX10_readsDancer 30 = .ok (.invokevirtual 117, 3) := by decide +kernel
theorem dX10_readsDancer_33 : decode cX10_readsDancer 33 = .ok (.ifCond .ne 5, 3) := by decide +kernel
theorem dX10_readsDancer_36 : decode cX10_readsDancer 36 = .ok (.iconst 0, 1) := by decide +kernel
theorem dX10_readsDancer_37 : decode cX10_readsDancer 37 = .ok (.ireturn, 1) := by decide +kernel
theorem dX10_readsDancer_38 : decode cX10_readsDancer 38 = .ok (.aload_n 0, 1) := by decide +kernel
theorem dX10_readsDancer_39 : decode cX10_readsDancer 39 = .ok (.getfield 41, 3) := by decide +kernel
theorem dX10_readsDancer_42 : decode cX10_readsDancer 42 = .ok (.aload_n 0, 1) := by decide +kernel
theorem dX10_readsDancer_43 : decode cX10_readsDancer 43 = .ok (.getfield 114, 3) := by decide +kernel
theorem dX10_readsDancer_46 : decode cX10_readsDancer 46 = .ok (.aload_n 0, 1) := by decide +kernel
theorem dX10_readsDancer_47 : decode cX10_readsDancer 47 = .ok (.getfield 98, 3) := by decide +kernel
theorem dX10_readsDancer_50 : decode cX10_readsDancer 50 = .ok (.iastore, 1) := by decide +kernel
theorem dX10_readsDancer_51 : decode cX10_readsDancer 51 = .ok (.aload_n 0, 1) := by decide +kernel
theorem dX10_readsDancer_52 : decode cX10_readsDancer 52 = .ok (.iconst 0, 1) := by decide +kernel
theorem dX10_readsDancer_53 : decode cX10_readsDancer 53 = .ok (.bipush 6, 2) := by decide +kernel
theorem dX10_readsDancer_55 : decode cX10_readsDancer 55 = .ok (.invokevirtual 117, 3) := by decide +kernel
theorem dX10_readsDancer_58 : decode cX10_readsDancer 58 = .ok (.ifCond .ne 5, 3) := by decide +kernel
theorem dX10_readsDancer_61 : decode cX10_readsDancer 61 = .ok (.iconst 0, 1) := by decide +kernel
theorem dX10_readsDancer_62 : decode cX10_readsDancer 62 = .ok (.ireturn, 1) := by decide +kernel
theorem dX10_readsDancer_63 : decode cX10_readsDancer 63 = .ok (.aload_n 0, 1) := by decide +kernel
theorem dX10_readsDancer_64 : decode cX10_readsDancer 64 = .ok (.getfield 44, 3) := by decide +kernel
theorem dX10_readsDancer_67 : decode cX10_readsDancer 67 = .ok (.aload_n 0, 1) := by decide +kernel
theorem dX10_readsDancer_68 : decode cX10_readsDancer 68 = .ok (.getfield 114, 3) := by decide +kernel
theorem dX10_readsDancer_71 : decode cX10_readsDancer 71 = .ok (.aload_n 0, 1) := by decide +kernel
theorem dX10_readsDancer_72 : decode cX10_readsDancer 72 = .ok (.getfield 98, 3) := by decide +kernel
theorem dX10_readsDancer_75 : decode cX10_readsDancer 75 = .ok (.iastore, 1) := by decide +kernel
theorem dX10_readsDancer_76 : decode cX10_readsDancer 76 = .ok (.aload_n 0, 1) := by decide +kernel
theorem dX10_readsDancer_77 : decode cX10_readsDancer 77 = .ok (.iconst 0, 1) := by decide +kernel
theorem dX10_readsDancer_78 : decode cX10_readsDancer 78 = .ok (.bipush 7, 2) := by decide +kernel
theorem dX10_readsDancer_80 : decode cX10_readsDancer 80 = .ok (.invokevirtual 117, 3) := by decide +kernel
theorem dX10_readsDancer_83 : decode cX10_readsDancer 83 = .ok (.ifCond .ne 5, 3) := by decide +kernel
theorem dX10_readsDancer_86 : decode cX10_readsDancer 86 = .ok (.iconst 0, 1) := by decide +kernel
theorem dX10_readsDancer_87 : decode cX10_readsDancer 87 = .ok (.ireturn, 1) := by decide +kernel
theorem dX10_readsDancer_88 : decode cX10_readsDancer 88 = .ok (.aload_n 0, 1) := by decide +kernel
theorem dX10_readsDancer_89 : decode cX10_readsDancer 89 = .ok (.getfield 47, 3) := by decide +kernel
theorem dX10_readsDancer_92 : decode cX10_readsDancer 92 = .ok (.aload_n 0, 1) := by decide +kernel
theorem dX10_readsDancer_93 : decode cX10_readsDancer 93 = .ok (.getfield 114, 3) := by decide +kernel
theorem dX10_readsDancer_96 : decode cX10_readsDancer 96 = .ok (.aload_n 0, 1) := by decide +kernel
theorem dX10_readsDancer_97 : decode cX10_readsDancer 97 = .ok (.getfield 98, 3) := by decide +kernel
theorem dX10_readsDancer_100 : decode cX10_readsDancer 100 = .ok (.iastore, 1) := by decide +kernel
theorem dX10_readsDancer_101 : decode cX10_readsDancer 101 = .ok (.aload_n 0, 1) := by decide +kernel
theorem dX10_readsDancer_102 : decode cX10_readsDancer 102 = .ok (.getfield 50, 3) := by decide +kernel
theorem dX10_readsDancer_105 : decode cX10_readsDancer 105 = .ok (.bipush 11, 2) := by decide +kernel
theorem dX10_readsDancer_107 : decode cX10_readsDancer 107 = .ok (.aload_n 0, 1) := by decide +kernel
theorem dX10_readsDancer_108 : decode cX10_readsDancer 108 = .ok (.getfield 114, 3) := by decide +kernel
theorem dX10_readsDancer_111 : decode cX10_readsDancer 111 = .ok (.imul, 1) := by decide +kernel
theorem dX10_readsDancer_112 : decode cX10_readsDancer 112 = .ok (.iconst 0, 1) := by decide +kernel
theorem dX10_readsDancer_113 : decode cX10_readsDancer 113 = .ok (.iastore, 1) := by decide +kernel
theorem dX10_readsDancer_114 : decode cX10_readsDancer 114 = .ok (.aload_n 0, 1) := by decide +kernel
theorem dX10_readsDancer_115 : decode cX10_readsDancer 115 = .ok (.invokevirtual 108, 3) := by decide +kernel
theorem dX10_readsDancer_118 : decode cX10_readsDancer 118 = .ok (.aload_n 0, 1) := by decide +kernel
theorem dX10_readsDancer_119 : decode cX10_readsDancer 119 = .ok (.getfield 91, 3) := by decide +kernel
theorem dX10_readsDancer_122 : decode cX10_readsDancer 122 = .ok (.bipush 59, 2) := by decide +kernel
theorem dX10_readsDancer_124 : decode cX10_readsDancer 124 = .ok (.if_icmp .eq 23, 3) := by decide +kernel
theorem dX10_readsDancer_127 : decode cX10_readsDancer 127 = .ok (.aload_n 0, 1) := by decide +kernel
theorem dX10_readsDancer_128 : decode cX10_readsDancer 128 = .ok (.aload_n 0, 1) := by decide +kernel
theorem dX10_readsDancer_129 : decode cX10_readsDancer 129 = .ok (.getfield 91, 3) := by decide +kernel
theorem dX10_readsDancer_132 : decode cX10_readsDancer 132 = .ok (.invokevirtual 121, 3) := by decide +kernel
theorem dX10_readsDancer_135 : decode cX10_readsDancer 135 = .ok (.ifCond .ne 5, 3) := by decide +kernel
theorem dX10_readsDancer_138 : decode cX10_readsDancer 138 = .ok (.iconst 0, 1) := by decide +kernel
theorem dX10_readsDancer_139 : decode cX10_readsDancer 139 = .ok (.ireturn, 1) := by decide +kernel
theorem dX10_readsDancer_140 : decode cX10_readsDancer 140 = .ok (.aload_n 0, 1) := by decide +kernel
theorem dX10_readsDancer_141 : decode cX10_readsDancer 141 = .ok (.invokevirtual 108, 3) := by decide +kernel
theorem dX10_readsDancer_144 : decode cX10_readsDancer 144 = .ok (.goto (-26), 3) := by decide +kernel
theorem dX10_readsDancer_147 : decode cX10_readsDancer 147 = .ok (.aload_n 0, 1) := by decide +kernel
theorem dX10_readsDancer_148 : decode cX10_readsDancer 148 = .ok (.dup, 1) := by decide +kernel
theorem dX10_readsDancer_149 : decode cX10_readsDancer 149 = .ok (.getfield 114, 3) := by decide +kernel
theorem dX10_readsDancer_152 : decode cX10_readsDancer 152 = .ok (.iconst 1, 1) := by decide +kernel
theorem dX10_readsDancer_153 : decode cX10_readsDancer 153 = .ok (.iadd, 1) := by decide +kernel
theorem dX10_readsDancer_154 : decode cX10_readsDancer 154 = .ok (.putfield 114, 3) := by decide +kernel
theorem dX10_readsDancer_157 : decode cX10_readsDancer 157 = .ok (.iconst 1, 1) := by decide +kernel
theorem dX10_readsDancer_158 : decode cX10_readsDancer 158 = .ok (.ireturn, 1) := by decide +kernel
set_option maxRecDepth 20000 in
theorem ggX10_dance_X10_blanks : GoodIn wsX10_dance wsX10_blanks := goodIn_r _ [21, 1, 4, 22, 56, 57, 58, 59, 60, 61, 62, 63, 64, 65, 66, 67, 68, 69, 70, 71, 72, 73, 74, 75, 76, 77, 78, 79, 80, 81, 82, 83, 84, 85, 86, 87, 88, 89, 90, 91, 92] (by decide +kernel) (by decide +kernel)
set_option maxRecDepth 20000 in
theorem gX10_dance_X10_blanks : GoodIn wsX10_dance (wsV RX10 85 RX10 yX10_blanks wsX10_blanks) := goodIn_app (goodIn_of _ (by decide +kernel)) ggX10_dance_X10_blanks
set_option maxRecDepth 20000 in
theorem ggX10_dance_X10_readsDancer : GoodIn wsX10_dance wsX10_readsDancer := goodIn_r _ [26, 27, 2, 8, 28, 10, 12, 3, 29, 30, 31, 20, 32, 1, 33, 4, 22, 17, 18, 19, 21, 34, 35, 36, 37, 38, 39, 40, 41, 42, 43, 44, 45, 46, 47, 5, 48, 49, 50, 51, 52, 53, 54, 55, 56, 57, 58, 59, 60, 61, 62, 63, 64, 65, 66, 67, 68, 69, 70, 71, 72, 73, 74, 75, 76, 77, 78, 79, 80, 81, 82, 83, 84, 85, 86, 87, 88, 89, 90, 91, 92] (by decide +kernel) (by decide +kernel)
set_option maxRecDepth 20000 in
theorem gX10_dance_X10_readsDancer : GoodIn wsX10_dance (wsV RX10 124 RX10 yX10_readsDancer wsX10_readsDancer) := goodIn_app (goodIn_of _ (by decide +kernel)) ggX10_dance_X10_readsDancer
theorem dX10_dance_0 : decode cX10_dance 0 = .ok (.aload_n 0, 1) := by decide +kernel
theorem dX10_dance_1 : decode cX10_dance 1 = .ok (.iconst 0, 1) := by decide +kernel
theorem dX10_dance_2 : decode cX10_dance 2 = .ok (.putfield 82, 3) := by decide +kernel
theorem dX10_dance_5 : decode cX10_dance 5 = .ok (.aload_n 0, 1) := by decide +kernel
theorem dX10_dance_6 : decode cX10_dance 6 = .ok (.iconst 0, 1) := by decide +kernel
theorem dX10_dance_7 : decode cX10_dance 7 = .ok (.putfield 114, 3) := by decide +kernel
theorem dX10_dance_10 : decode cX10_dance 10 = .ok (.iconst 0, 1) := by decide +kernel
theorem dX10_dance_11 : decode cX10_dance 11 = .ok (.istore_n 1, 1) := by decide +kernel
theorem dX10_dance_12 : decode cX10_dance 12 = .ok (.iload_n 1, 1) := by decide +kernel
theorem dX10_dance_13 : decode cX10_dance 13 = .ok (.bipush 33, 2) := by decide +kernel
theorem dX10_dance_15 : decode cX10_dance 15 = .ok (.if_icmp .ge 16, 3) := by decide +kernel
theorem dX10_dance_18 : decode cX10_dance 18 = .ok (.aload_n 0, 1) := by decide +kernel
theorem dX10_dance_19 : decode cX10_dance 19 = .ok (.getfield 50, 3) := by decide +kernel
theorem dX10_dance_22 : decode cX10_dance 22 = .ok (.iload_n 1, 1) := by decide +kernel
theorem dX10_dance_23 : decode cX10_dance 23 = .ok (.iconst 0, 1) := by decide +kernel
theorem dX10_dance_24 : decode cX10_dance 24 = .ok (.iastore, 1) := by decide +kernel
theorem dX10_dance_25 : decode cX10_dance 25 = .ok (.iinc 1 1, 3) := by decide +kernel
theorem dX10_dance_28 : decode cX10_dance 28 = .ok (.goto (-16), 3) := by decide +kernel
theorem dX10_dance_31 : decode cX10_dance 31 = .ok (.aload_n 0, 1) := by decide +kernel
theorem dX10_dance_32 : decode cX10_dance 32 = .ok (.invokevirtual 85, 3) := by decide +kernel
theorem dX10_dance_35 : decode cX10_dance 35 = .ok (.aload_n 0, 1) := by decide +kernel
theorem dX10_dance_36 : decode cX10_dance 36 = .ok (.getfield 82, 3) := by decide +kernel
theorem dX10_dance_39 : decode cX10_dance 39 = .ok (.aload_n 0, 1) := by decide +kernel
theorem dX10_dance_40 : decode cX10_dance 40 = .ok (.getfield 78, 3) := by decide +kernel
theorem dX10_dance_43 : decode cX10_dance 43 = .ok (.if_icmp .ge 25, 3) := by decide +kernel
theorem dX10_dance_46 : decode cX10_dance 46 = .ok (.aload_n 0, 1) := by decide +kernel
theorem dX10_dance_47 : decode cX10_dance 47 = .ok (.invokevirtual 124, 3) := by decide +kernel
theorem dX10_dance_50 : decode cX10_dance 50 = .ok (.ifCond .ne 11, 3) := by decide +kernel
theorem dX10_dance_53 : decode cX10_dance 53 = .ok (.bipush (-10), 2) := by decide +kernel
theorem dX10_dance_55 : decode cX10_dance 55 = .ok (.aload_n 0, 1) := by decide +kernel
theorem dX10_dance_56 : decode cX10_dance 56 = .ok (.getfield 105, 3) := by decide +kernel
theorem dX10_dance_59 : decode cX10_dance 59 = .ok (.isub, 1) := by decide +kernel
theorem dX10_dance_60 : decode cX10_dance 60 = .ok (.ireturn, 1) := by decide +kernel
theorem dX10_dance_61 : decode cX10_dance 61 = .ok (.aload_n 0, 1) := by decide +kernel
theorem dX10_dance_62 : decode cX10_dance 62 = .ok (.invokevirtual 85, 3) := by decide +kernel
theorem dX10_dance_65 : decode cX10_dance 65 = .ok (.goto (-30), 3) := by decide +kernel
theorem dX10_dance_68 : decode cX10_dance 68 = .ok (.aload_n 0, 1) := by decide +kernel
theorem dX10_dance_69 : decode cX10_dance 69 = .ok (.iconst 0, 1) := by decide +kernel
theorem dX10_dance_70 : decode cX10_dance 70 = .ok (.putfield 78, 3) := by decide +kernel
theorem dX10_dance_73 : decode cX10_dance 73 = .ok (.aload_n 0, 1) := by decide +kernel
theorem dX10_dance_74 : decode cX10_dance 74 = .ok (.aload_n 0, 1) := by decide +kernel
theorem dX10_dance_75 : decode cX10_dance 75 = .ok (.getfield 114, 3) := by decide +kernel
theorem dX10_dance_78 : decode cX10_dance 78 = .ok (.putfield 127, 3) := by decide +kernel
theorem dX10_dance_81 : decode cX10_dance 81 = .ok (.iconst 0, 1) := by decide +kernel
theorem dX10_dance_82 : decode cX10_dance 82 = .ok (.istore_n 1, 1) := by decide +kernel
theorem dX10_dance_83 : decode cX10_dance 83 = .ok (.iload_n 1, 1) := by decide +kernel
theorem dX10_dance_84 : decode cX10_dance 84 = .ok (.iconst 3, 1) := by decide +kernel
theorem dX10_dance_85 : decode cX10_dance 85 = .ok (.if_icmp .ge 45, 3) := by decide +kernel
theorem dX10_dance_88 : decode cX10_dance 88 = .ok (.aload_n 0, 1) := by decide +kernel
theorem dX10_dance_89 : decode cX10_dance 89 = .ok (.getfield 7, 3) := by decide +kernel
theorem dX10_dance_92 : decode cX10_dance 92 = .ok (.iload_n 1, 1) := by decide +kernel
theorem dX10_dance_93 : decode cX10_dance 93 = .ok (.aload_n 0, 1) := by decide +kernel
theorem dX10_dance_94 : decode cX10_dance 94 = .ok (.getfield 41, 3) := by decide +kernel
theorem dX10_dance_97 : decode cX10_dance 97 = .ok (.iload_n 1, 1) := by decide +kernel
theorem dX10_dance_98 : decode cX10_dance 98 = .ok (.iaload, 1) := by decide +kernel
theorem dX10_dance_99 : decode cX10_dance 99 = .ok (.iastore, 1) := by decide +kernel
theorem dX10_dance_100 : decode cX10_dance 100 = .ok (.aload_n 0, 1) := by decide +kernel
theorem dX10_dance_101 : decode cX10_dance 101 = .ok (.getfield 13, 3) := by decide +kernel
theorem dX10_dance_104 : decode cX10_dance 104 = .ok (.iload_n 1, 1) := by decide +kernel
theorem dX10_dance_105 : decode cX10_dance 105 = .ok (.aload_n 0, 1) := by decide +kernel
theorem dX10_dance_106 : decode cX10_dance 106 = .ok (.getfield 44, 3) := by decide +kernel
theorem dX10_dance_109 : decode cX10_dance 109 = .ok (.iload_n 1, 1) := by decide +kernel
theorem dX10_dance_110 : decode cX10_dance 110 = .ok (.iaload, 1) := by decide +kernel
theorem dX10_dance_111 : decode cX10_dance 111 = .ok (.iastore, 1) := by decide +kernel
theorem dX10_dance_112 : decode cX10_dance 112 = .ok (.aload_n 0, 1) := by decide +kernel
theorem dX10_dance_113 : decode cX10_dance 113 = .ok (.getfield 16, 3) := by decide +kernel
theorem dX10_dance_116 : decode cX10_dance 116 = .ok (.iload_n 1, 1) := by decide +kernel
theorem dX10_dance_117 : decode cX10_dance 117 = .ok (.aload_n 0, 1) := by decide +kernel
theorem dX10_dance_118 : decode cX10_dance 118 = .ok (.getfield 47, 3) := by decide +kernel
theorem dX10_dance_121 : decode cX10_dance 121 = .ok (.iload_n 1, 1) := by decide +kernel
theorem dX10_dance_122 : decode cX10_dance 122 = .ok (.iaload, 1) := by decide +kernel
theorem dX10_dance_123 : decode cX10_dance 123 = .ok (.iastore, 1) := by decide +kernel
theorem dX10_dance_124 : decode cX10_dance 124 = .ok (.iinc 1 1, 3) := by decide +kernel
theorem dX10_dance_127 : decode cX10_dance 127 = .ok (.goto (-44), 3) := by decide +kernel
theorem dX10_dance_130 : decode cX10_dance 130 = .ok (.iconst 0, 1) := by decide +kernel
theorem dX10_dance_131 : decode cX10_dance 131 = .ok (.istore_n 1, 1) := by decide +kernel
theorem dX10_dance_132 : decode cX10_dance 132 = .ok (.iload_n 1, 1) := by decide +kernel
theorem dX10_dance_133 : decode cX10_dance 133 = .ok (.bipush 33, 2) := by decide +kernel
theorem dX10_dance_135 : decode cX10_dance 135 = .ok (.if_icmp .ge 36, 3) := by decide +kernel
theorem dX10_dance_138 : decode cX10_dance 138 = .ok (.aload_n 0, 1) := by decide +kernel
theorem dX10_dance_139 : decode cX10_dance 139 = .ok (.getfield 19, 3) := by decide +kernel
theorem dX10_dance_142 : decode cX10_dance 142 = .ok (.iload_n 1, 1) := by decide +kernel
theorem dX10_dance_143 : decode cX10_dance 143 = .ok (.iload_n 1, 1) := by decide +kernel
theorem dX10_dance_144 : decode cX10_dance 144 = .ok (.bipush 11, 2) := by decide +kernel
theorem dX10_dance_146 : decode cX10_dance 146 = .ok (.aload_n 0, 1) := by decide +kernel
theorem dX10_dance_147 : decode cX10_dance 147 = .ok (.getfield 127, 3) := by decide +kernel
theorem dX10_dance_150 : decode cX10_dance 150 = .ok (.imul, 1) := by decide +kernel
theorem dX10_dance_151 : decode cX10_dance 151 = .ok (.if_icmp .ge 12, 3) := by decide +kernel
theorem dX10_dance_154 : decode cX10_dance 154 = .ok (.aload_n 0, 1) := by decide +kernel
theorem dX10_dance_155 : decode cX10_dance 155 = .ok (.getfield 50, 3) := by decide +kernel
theorem dX10_dance_158 : decode cX10_dance 158 = .ok (.iload_n 1, 1) := by decide +kernel
theorem dX10_dance_159 : decode cX10_dance 159 = .ok (.iaload, 1) := by decide +kernel
theorem dX10_dance_160 : decode cX10_dance 160 = .ok (.goto 4, 3) := by decide +kernel
theorem dX10_dance_163 : decode cX10_dance 163 = .ok (.iconst 0, 1) := by decide +kernel
theorem dX10_dance_164 : decode cX10_dance 164 = .ok (.iastore, 1) := by decide +kernel
theorem dX10_dance_165 : decode cX10_dance 165 = .ok (.iinc 1 1, 3) := by decide +kernel
theorem dX10_dance_168 : decode cX10_dance 168 = .ok (.goto (-36), 3) := by decide +kernel
theorem dX10_dance_171 : decode cX10_dance 171 = .ok (.aload_n 0, 1) := by decide +kernel
theorem dX10_dance_172 : decode cX10_dance 172 = .ok (.iconst 0, 1) := by decide +kernel
theorem dX10_dance_173 : decode cX10_dance 173 = .ok (.putfield 130, 3) := by decide +kernel
theorem dX10_dance_176 : decode cX10_dance 176 = .ok (.aload_n 0, 1) := by decide +kernel
theorem dX10_dance_177 : decode cX10_dance 177 = .ok (.iconst 0, 1) := by decide +kernel
theorem dX10_dance_178 : decode cX10_dance 178 = .ok (.putfield 133, 3) := by decide +kernel
theorem dX10_dance_181 : decode cX10_dance 181 = .ok (.aload_n 0, 1) := by decide +kernel
theorem dX10_dance_182 : decode cX10_dance 182 = .ok (.getfield 31, 3) := by decide +kernel
theorem dX10_dance_185 : decode cX10_dance 185 = .ok (.iconst 0, 1) := by decide +kernel
theorem dX10_dance_186 : decode cX10_dance 186 = .ok (.iconst 0, 1) := by decide +kernel
theorem dX10_dance_187 : decode cX10_dance 187 = .ok (.bastore, 1) := by decide +kernel
theorem dX10_dance_188 : decode cX10_dance 188 = .ok (.aload_n 0, 1) := by decide +kernel
theorem dX10_dance_189 : decode cX10_dance 189 = .ok (.getfield 31, 3) := by decide +kernel
theorem dX10_dance_192 : decode cX10_dance 192 = .ok (.iconst 1, 1) := by decide +kernel
theorem dX10_dance_193 : decode cX10_dance 193 = .ok (.iconst 0, 1) := by decide +kernel
theorem dX10_dance_194 : decode cX10_dance 194 = .ok (.bastore, 1) := by decide +kernel
theorem dX10_dance_195 : decode cX10_dance 195 = .ok (.aload_n 0, 1) := by decide +kernel
theorem dX10_dance_196 : decode cX10_dance 196 = .ok (.getfield 127, 3) := by decide +kernel
theorem dX10_dance_199 : decode cX10_dance 199 = .ok (.ireturn, 1) := by decide +kernel
set_option maxRecDepth 20000 in
theorem ggX10_isDancer_X10_in : GoodIn wsX10_isDancer wsX10_in := goodIn_r _ [5] (by decide +kernel) (by decide +kernel)
set_option maxRecDepth 20000 in
theorem gX10_isDancer_X10_in : GoodIn wsX10_isDancer (va_wsS RX10 74 yX10_in wsX10_in) := goodIn_app (goodIn_of _ (by decide +kernel)) ggX10_isDancer_X10_in
theorem dX10_isDancer_0 : decode cX10_isDancer 0 = .ok (.iload_n 1, 1) := by decide +kernel
theorem dX10_isDancer_1 : decode cX10_isDancer 1 = .ok (.iconst 0, 1) := by decide +kernel
theorem dX10_isDancer_2 : decode cX10_isDancer 2 = .ok (.aload_n 0, 1) := by decide +kernel
theorem dX10_isDancer_3 : decode cX10_isDancer 3 = .ok (.getfield 127, 3) := by decide +kernel
theorem dX10_isDancer_6 : decode cX10_isDancer 6 = .ok (.iconst 1, 1) := by decide +kernel
theorem dX10_isDancer_7 : decode cX10_isDancer 7 = .ok (.isub, 1) := by decide +kernel
theorem dX10_isDancer_8 : decode cX10_isDancer 8 = .ok (.invokestatic 74, 3) := by decide +kernel
theorem dX10_isDancer_11 : decode cX10_isDancer 11 = .ok (.ireturn, 1) := by decide +kernel
theorem dX10_sizeOf_0 : decode cX10_sizeOf 0 = .ok (.aload_n 0, 1) := by decide +kernel
theorem dX10_sizeOf_1 : decode cX10_sizeOf 1 = .ok (.getfield 19, 3) := by decide +kernel
theorem dX10_sizeOf_4 : decode cX10_sizeOf 4 = .ok (.bipush 11, 2) := by decide +kernel
theorem dX10_sizeOf_6 : decode cX10_sizeOf 6 = .ok (.iload_n 1, 1) := by decide +kernel
theorem dX10_sizeOf_7 : decode cX10_sizeOf 7 = .ok (.imul, 1) := by decide +kernel
theorem dX10_sizeOf_8 : decode cX10_sizeOf 8 = .ok (.iaload, 1) := by decide +kernel
theorem dX10_sizeOf_9 : decode cX10_sizeOf 9 = .ok (.ireturn, 1) := by decide +kernel
theorem dX10_signOf_0 : decode cX10_signOf 0 = .ok (.aload_n 0, 1) := by decide +kernel
theorem dX10_signOf_1 : decode cX10_signOf 1 = .ok (.getfield 19, 3) := by decide +kernel
theorem dX10_signOf_4 : decode cX10_signOf 4 = .ok (.bipush 11, 2) := by decide +kernel
theorem dX10_signOf_6 : decode cX10_signOf 6 = .ok (.iload_n 1, 1) := by decide +kernel
theorem dX10_signOf_7 : decode cX10_signOf 7 = .ok (.imul, 1) := by decide +kernel
theorem dX10_signOf_8 : decode cX10_signOf 8 = .ok (.iconst 1, 1) := by decide +kernel
theorem dX10_signOf_9 : decode cX10_signOf 9 = .ok (.iadd, 1) := by decide +kernel
theorem dX10_signOf_10 : decode cX10_signOf 10 = .ok (.iload_n 2, 1) := by decide +kernel
theorem dX10_signOf_11 : decode cX10_signOf 11 = .ok (.iadd, 1) := by decide +kernel
theorem dX10_signOf_12 : decode cX10_signOf 12 = .ok (.iaload, 1) := by decide +kernel
theorem dX10_signOf_13 : decode cX10_signOf 13 = .ok (.ireturn, 1) := by decide +kernel
theorem dX10_stepX_0 : decode cX10_stepX 0 = .ok (.iload_n 0, 1) := by decide +kernel
theorem dX10_stepX_1 : decode cX10_stepX 1 = .ok (.bipush 8, 2) := by decide +kernel
theorem dX10_stepX_3 : decode cX10_stepX 3 = .ok (.irem, 1) := by decide +kernel
theorem dX10_stepX_4 : decode cX10_stepX 4 = .ok (.istore_n 1, 1) := by decide +kernel
theorem dX10_stepX_5 : decode cX10_stepX 5 = .ok (.iload_n 1, 1) := by decide +kernel
theorem dX10_stepX_6 : decode cX10_stepX 6 = .ok (.iconst 4, 1) := by decide +kernel
theorem dX10_stepX_7 : decode cX10_stepX 7 = .ok (.irem, 1) := by decide +kernel
theorem dX10_stepX_8 : decode cX10_stepX 8 = .ok (.ifCond .ne 7, 3) := by decide +kernel
theorem dX10_stepX_11 : decode cX10_stepX 11 = .ok (.iconst 0, 1) := by decide +kernel
theorem dX10_stepX_12 : decode cX10_stepX 12 = .ok (.goto 13, 3) := by decide +kernel
theorem dX10_stepX_15 : decode cX10_stepX 15 = .ok (.iload_n 1, 1) := by decide +kernel
theorem dX10_stepX_16 : decode cX10_stepX 16 = .ok (.iconst 4, 1) := by decide +kernel
theorem dX10_stepX_17 : decode cX10_stepX 17 = .ok (.if_icmp .ge 7, 3) := by decide +kernel
theorem dX10_stepX_20 : decode cX10_stepX 20 = .ok (.iconst 1, 1) := by decide +kernel
theorem dX10_stepX_21 : decode cX10_stepX 21 = .ok (.goto 4, 3) := by decide +kernel
theorem dX10_stepX_24 : decode cX10_stepX 24 = .ok (.iconst (-1), 1) := by decide +kernel
theorem dX10_stepX_25 : decode cX10_stepX 25 = .ok (.ireturn, 1) := by decide +kernel
set_option maxRecDepth 20000 in
theorem ggX10_stepY_X10_stepX : GoodIn wsX10_stepY wsX10_stepX := goodIn_r _ [4] (by decide +kernel) (by decide +kernel)
set_option maxRecDepth 20000 in
theorem gX10_stepY_X10_stepX : GoodIn wsX10_stepY (va_wsS RX10 136 yX10_stepX wsX10_stepX) := goodIn_app (goodIn_of _ (by decide +kernel)) ggX10_stepY_X10_stepX
theorem dX10_stepY_0 : decode cX10_stepY 0 = .ok (.iload_n 0, 1) := by decide +kernel
theorem dX10_stepY_1 : decode cX10_stepY 1 = .ok (.iconst 2, 1) := by decide +kernel
theorem dX10_stepY_2 : decode cX10_stepY 2 = .ok (.iadd, 1) := by decide +kernel
theorem dX10_stepY_3 : decode cX10_stepY 3 = .ok (.invokestatic 136, 3) := by decide +kernel
theorem dX10_stepY_6 : decode cX10_stepY 6 = .ok (.ireturn, 1) := by decide +kernel
set_option maxRecDepth 20000 in
theorem ggX10_leads_X10_stepX : GoodIn wsX10_leads wsX10_stepX := goodIn_r _ [8] (by decide +kernel) (by decide +kernel)
set_option maxRecDepth 20000 in
theorem gX10_leads_X10_stepX : GoodIn wsX10_leads (va_wsS RX10 136 yX10_stepX wsX10_stepX) := goodIn_app (goodIn_of _ (by decide +kernel)) ggX10_leads_X10_stepX
set_option maxRecDepth 20000 in
theorem ggX10_leads_X10_stepY : GoodIn wsX10_leads wsX10_stepY := goodIn_r _ [11, 5, 6, 7, 8] (by decide +kernel) (by decide +kernel)
set_option maxRecDepth 20000 in
theorem gX10_leads_X10_stepY : GoodIn wsX10_leads (va_wsS RX10 152 yX10_stepY wsX10_stepY) := goodIn_app (goodIn_of _ (by decide +kernel)) ggX10_leads_X10_stepY
set_option maxRecDepth 20000 in
theorem ggX10_leads_X10_in : GoodIn wsX10_leads wsX10_in := goodIn_r _ [14] (by decide +kernel) (by decide +kernel)
set_option maxRecDepth 20000 in
theorem gX10_leads_X10_in : GoodIn wsX10_leads (va_wsS RX10 74 yX10_in wsX10_in) := goodIn_app (goodIn_of _ (by decide +kernel)) ggX10_leads_X10_in
theorem dX10_leads_0 : decode cX10_leads 0 = .ok (.aload_n 0, 1) := by decide +kernel
theorem dX10_leads_1 : decode cX10_leads 1 = .ok (.iload_n 1, 1) := by decide +kernel
theorem dX10_leads_2 : decode cX10_leads 2 = .ok (.putfield 140, 3) := by decide +kernel
theorem dX10_leads_5 : decode cX10_leads 5 = .ok (.aload_n 0, 1) := by decide +kernel
theorem dX10_leads_6 : decode cX10_leads 6 = .ok (.iload_n 2, 1) := by decide +kernel
theorem dX10_leads_7 : decode cX10_leads 7 = .ok (.putfield 143, 3) := by decide +kernel
theorem dX10_leads_10 : decode cX10_leads 10 = .ok (.aload_n 0, 1) := by decide +kernel
theorem dX10_leads_11 : decode cX10_leads 11 = .ok (.iload_n 3, 1) := by decide +kernel
theorem dX10_leads_12 : decode cX10_leads 12 = .ok (.putfield 146, 3) := by decide +kernel
theorem dX10_leads_15 : decode cX10_leads 15 = .ok (.aload_n 0, 1) := by decide +kernel
theorem dX10_leads_16 : decode cX10_leads 16 = .ok (.iload 4, 2) := by decide +kernel
theorem dX10_leads_18 : decode cX10_leads 18 = .ok (.putfield 149, 3) := by decide +kernel
theorem dX10_leads_21 : decode cX10_leads 21 = .ok (.iload 5, 2) := by decide +kernel
theorem dX10_leads_23 : decode cX10_leads 23 = .ok (.bipush 26, 2) := by decide +kernel
theorem dX10_leads_25 : decode cX10_leads 25 = .ok (.if_icmp .lt 22, 3) := by decide +kernel
theorem dX10_leads_28 : decode cX10_leads 28 = .ok (.aload_n 0, 1) := by decide +kernel
theorem dX10_leads_29 : decode cX10_leads 29 = .ok (.iload_n 3, 1) := by decide +kernel
theorem dX10_leads_30 : decode cX10_leads 30 = .ok (.iload 5, 2) := by decide +kernel
theorem dX10_leads_32 : decode cX10_leads 32 = .ok (.iadd, 1) := by decide +kernel
theorem dX10_leads_33 : decode cX10_leads 33 = .ok (.bipush 26, 2) := by decide +kernel
theorem dX10_leads_35 : decode cX10_leads 35 = .ok (.isub, 1) := by decide +kernel
theorem dX10_leads_36 : decode cX10_leads 36 = .ok (.iconst 1, 1) := by decide +kernel
theorem dX10_leads_37 : decode cX10_leads 37 = .ok (.iadd, 1) := by decide +kernel
theorem dX10_leads_38 : decode cX10_leads 38 = .ok (.bipush 8, 2) := by decide +kernel
theorem dX10_leads_40 : decode cX10_leads 40 = .ok (.irem, 1) := by decide +kernel
theorem dX10_leads_41 : decode cX10_leads 41 = .ok (.putfield 146, 3) := by decide +kernel
theorem dX10_leads_44 : decode cX10_leads 44 = .ok (.goto 119, 3) := by decide +kernel
theorem dX10_leads_47 : decode cX10_leads 47 = .ok (.iload 5, 2) := by decide +kernel
theorem dX10_leads_49 : decode cX10_leads 49 = .ok (.iconst 2, 1) := by decide +kernel
theorem dX10_leads_50 : decode cX10_leads 50 = .ok (.if_icmp .lt 102, 3) := by decide +kernel
theorem dX10_leads_53 : decode cX10_leads 53 = .ok (.iload 5, 2) := by decide +kernel
theorem dX10_leads_55 : decode cX10_leads 55 = .ok (.iconst 2, 1) := by decide +kernel
theorem dX10_leads_56 : decode cX10_leads 56 = .ok (.isub, 1) := by decide +kernel
theorem dX10_leads_57 : decode cX10_leads 57 = .ok (.bipush 8, 2) := by decide +kernel
theorem dX10_leads_59 : decode cX10_leads 59 = .ok (.idiv, 1) := by decide +kernel
theorem dX10_leads_60 : decode cX10_leads 60 = .ok (.istore 6, 2) := by decide +kernel
theorem dX10_leads_62 : decode cX10_leads 62 = .ok (.iload_n 3, 1) := by decide +kernel
theorem dX10_leads_63 : decode cX10_leads 63 = .ok (.iload 5, 2) := by decide +kernel
theorem dX10_leads_65 : decode cX10_leads 65 = .ok (.iconst 2, 1) := by decide +kernel
theorem dX10_leads_66 : decode cX10_leads 66 = .ok (.isub, 1) := by decide +kernel
theorem dX10_leads_67 : decode cX10_leads 67 = .ok (.bipush 8, 2) := by decide +kernel
theorem dX10_leads_69 : decode cX10_leads 69 = .ok (.irem, 1) := by decide +kernel
theorem dX10_leads_70 : decode cX10_leads 70 = .ok (.iadd, 1) := by decide +kernel
theorem dX10_leads_71 : decode cX10_leads 71 = .ok (.istore 7, 2) := by decide +kernel
theorem dX10_leads_73 : decode cX10_leads 73 = .ok (.aload_n 0, 1) := by decide +kernel
theorem dX10_leads_74 : decode cX10_leads 74 = .ok (.dup, 1) := by decide +kernel
theorem dX10_leads_75 : decode cX10_leads 75 = .ok (.getfield 140, 3) := by decide +kernel
theorem dX10_leads_78 : decode cX10_leads 78 = .ok (.iload 7, 2) := by decide +kernel
theorem dX10_leads_80 : decode cX10_leads 80 = .ok (.invokestatic 136, 3) := by decide +kernel
theorem dX10_leads_83 : decode cX10_leads 83 = .ok (.iadd, 1) := by decide +kernel
theorem dX10_leads_84 : decode cX10_leads 84 = .ok (.putfield 140, 3) := by decide +kernel
theorem dX10_leads_87 : decode cX10_leads 87 = .ok (.aload_n 0, 1) := by decide +kernel
theorem dX10_leads_88 : decode cX10_leads 88 = .ok (.dup, 1) := by decide +kernel
theorem dX10_leads_89 : decode cX10_leads 89 = .ok (.getfield 143, 3) := by decide +kernel
theorem dX10_leads_92 : decode cX10_leads 92 = .ok (.iload 7, 2) := by decide +kernel
theorem dX10_leads_94 : decode cX10_leads 94 = .ok (.invokestatic 152, 3) := by decide +kernel
theorem dX10_leads_97 : decode cX10_leads 97 = .ok (.iadd, 1) := by decide +kernel
theorem dX10_leads_98 : decode cX10_leads 98 = .ok (.putfield 143, 3) := by decide +kernel
theorem dX10_leads_101 : decode cX10_leads 101 = .ok (.aload_n 0, 1) := by decide +kernel
theorem dX10_leads_102 : decode cX10_leads 102 = .ok (.iload 6, 2) := by decide +kernel
theorem dX10_leads_104 : decode cX10_leads 104 = .ok (.putfield 149, 3) := by decide +kernel
theorem dX10_leads_107 : decode cX10_leads 107 = .ok (.iload 6, 2) := by decide +kernel
theorem dX10_leads_109 : decode cX10_leads 109 = .ok (.iconst 1, 1) := by decide +kernel
theorem dX10_leads_110 : decode cX10_leads 110 = .ok (.if_icmp .gt 10, 3) := by decide +kernel
theorem dX10_leads_113 : decode cX10_leads 113 = .ok (.iload 4, 2) := by decide +kernel
theorem dX10_leads_115 : decode cX10_leads 115 = .ok (.iload 6, 2) := by decide +kernel
theorem dX10_leads_117 : decode cX10_leads 117 = .ok (.if_icmp .eq 33, 3) := by decide +kernel
theorem dX10_leads_120 : decode cX10_leads 120 = .ok (.aload_n 0, 1) := by decide +kernel
theorem dX10_leads_121 : decode cX10_leads 121 = .ok (.getfield 140, 3) := by decide +kernel
theorem dX10_leads_124 : decode cX10_leads 124 = .ok (.iconst 0, 1) := by decide +kernel
theorem dX10_leads_125 : decode cX10_leads 125 = .ok (.bipush 6, 2) := by decide +kernel
theorem dX10_leads_127 : decode cX10_leads 127 = .ok (.invokestatic 74, 3) := by decide +kernel
theorem dX10_leads_130 : decode cX10_leads 130 = .ok (.ifCond .eq 20, 3) := by decide +kernel
theorem dX10_leads_133 : decode cX10_leads 133 = .ok (.aload_n 0, 1) := by decide +kernel
theorem dX10_leads_134 : decode cX10_leads 134 = .ok (.getfield 143, 3) := by decide +kernel
theorem dX10_leads_137 : decode cX10_leads 137 = .ok (.iconst 0, 1) := by decide +kernel
theorem dX10_leads_138 : decode cX10_leads 138 = .ok (.bipush 6, 2) := by decide +kernel
theorem dX10_leads_140 : decode cX10_leads 140 = .ok (.invokestatic 74, 3) := by decide +kernel
theorem dX10_leads_143 : decode cX10_leads 143 = .ok (.ifCond .eq 7, 3) := by decide +kernel
theorem dX10_leads_146 : decode cX10_leads 146 = .ok (.iconst 1, 1) := by decide +kernel
theorem dX10_leads_147 : decode cX10_leads 147 = .ok (.goto 4, 3) := by decide +kernel
theorem dX10_leads_150 : decode cX10_leads 150 = .ok (.iconst 0, 1) := by decide +kernel
theorem dX10_leads_151 : decode cX10_leads 151 = .ok (.ireturn, 1) := by decide +kernel
theorem dX10_leads_152 : decode cX10_leads 152 = .ok (.iload 5, 2) := by decide +kernel
theorem dX10_leads_154 : decode cX10_leads 154 = .ok (.iconst 1, 1) := by decide +kernel
theorem dX10_leads_155 : decode cX10_leads 155 = .ok (.if_icmp .ne 8, 3) := by decide +kernel
theorem dX10_leads_158 : decode cX10_leads 158 = .ok (.aload_n 0, 1) := by decide +kernel
theorem dX10_leads_159 : decode cX10_leads 159 = .ok (.iconst 2, 1) := by decide +kernel
theorem dX10_leads_160 : decode cX10_leads 160 = .ok (.putfield 149, 3) := by decide +kernel
theorem dX10_leads_163 : decode cX10_leads 163 = .ok (.iconst 1, 1) := by decide +kernel
theorem dX10_leads_164 : decode cX10_leads 164 = .ok (.ireturn, 1) := by decide +kernel
set_option maxRecDepth 20000 in
theorem ggX10_dances_X10_sizeOf : GoodIn wsX10_dances wsX10_sizeOf := goodIn_r _ [17, 18, 36, 37, 38, 39, 40, 41, 42, 43, 44, 45, 46, 47, 48, 49, 50, 51, 52, 53, 54, 55, 56, 57, 58, 59, 60, 61, 62, 63, 64, 65, 66, 67, 68, 69, 70, 71, 72] (by decide +kernel) (by decide +kernel)
set_option maxRecDepth 20000 in
theorem gX10_dances_X10_sizeOf : GoodIn wsX10_dances (wsV RX10 158 RX10 yX10_sizeOf wsX10_sizeOf) := goodIn_app (goodIn_of _ (by decide +kernel)) ggX10_dances_X10_sizeOf
set_option maxRecDepth 20000 in
theorem ggX10_dances_X10_signOf : GoodIn wsX10_dances wsX10_signOf := goodIn_r _ [22, 18, 36, 37, 38, 39, 40, 41, 42, 43, 44, 45, 46, 47, 48, 49, 50, 51, 52, 53, 54, 55, 56, 57, 58, 59, 60, 61, 62, 63, 64, 65, 66, 67, 68, 69, 70, 71, 72] (by decide +kernel) (by decide +kernel)
set_option maxRecDepth 20000 in
theorem gX10_dances_X10_signOf : GoodIn wsX10_dances (wsV RX10 161 RX10 yX10_signOf wsX10_signOf) := goodIn_app (goodIn_of _ (by decide +kernel)) ggX10_dances_X10_signOf
set_option maxRecDepth 20000 in
theorem ggX10_dances_X10_leads : GoodIn wsX10_dances wsX10_leads := goodIn_r _ [26, 9, 10, 11, 12, 27, 28, 16, 29, 30, 31, 32, 33, 34, 35, 36, 37, 38, 39, 40, 41, 42, 43, 44, 45, 46, 47, 48, 49, 50, 51, 52, 53, 54, 55, 56, 57, 58, 59, 60, 61, 62, 63, 64, 65, 66, 67, 68, 69, 70, 71, 72] (by decide +kernel) (by decide +kernel)
set_option maxRecDepth 20000 in
theorem gX10_dances_X10_leads : GoodIn wsX10_dances (wsV RX10 165 RX10 yX10_leads wsX10_leads) := goodIn_app (goodIn_of _ (by decide +kernel)) ggX10_dances_X10_leads
theorem dX10_dances_0 : decode cX10_dances 0 = .ok (.aload_n 0, 1) := by decide +kernel
theorem dX10_dances_1 : decode cX10_dances 1 = .ok (.getfield 53, 3) := by decide +kernel
theorem dX10_dances_4 : decode cX10_dances 4 = .ok (.iconst 0, 1) := by decide +kernel
theorem dX10_dances_5 : decode cX10_dances 5 = .ok (.aload_n 0, 1) := by decide +kernel
theorem dX10_dances_6 : decode cX10_dances 6 = .ok (.getfield 7, 3) := by decide +kernel
theorem dX10_dances_9 : decode cX10_dances 9 = .ok (.iload_n 1, 1) := by decide +kernel
theorem dX10_dances_10 : decode cX10_dances 10 = .ok (.iaload, 1) := by decide +kernel
theorem dX10_dances_11 : decode cX10_dances 11 = .ok (.iastore, 1) := by decide +kernel
theorem dX10_dances_12 : decode cX10_dances 12 = .ok (.aload_n 0, 1) := by decide +kernel
theorem dX10_dances_13 : decode cX10_dances 13 = .ok (.getfield 56, 3) := by decide +kernel
theorem dX10_dances_16 : decode cX10_dances 16 = .ok (.iconst 0, 1) := by decide +kernel
theorem dX10_dances_17 : decode cX10_dances 17 = .ok (.aload_n 0, 1) := by decide +kernel
theorem dX10_dances_18 : decode cX10_dances 18 = .ok (.getfield 13, 3) := by decide +kernel
theorem dX10_dances_21 : decode cX10_dances 21 = .ok (.iload_n 1, 1) := by decide +kernel
theorem dX10_dances_22 : decode cX10_dances 22 = .ok (.iaload, 1) := by decide +kernel
theorem dX10_dances_23 : decode cX10_dances 23 = .ok (.iastore, 1) := by decide +kernel
theorem dX10_dances_24 : decode cX10_dances 24 = .ok (.aload_n 0, 1) := by decide +kernel
theorem dX10_dances_25 : decode cX10_dances 25 = .ok (.getfield 59, 3) := by decide +kernel
theorem dX10_dances_28 : decode cX10_dances 28 = .ok (.iconst 0, 1) := by decide +kernel
theorem dX10_dances_29 : decode cX10_dances 29 = .ok (.aload_n 0, 1) := by decide +kernel
theorem dX10_dances_30 : decode cX10_dances 30 = .ok (.getfield 16, 3) := by decide +kernel
theorem dX10_dances_33 : decode cX10_dances 33 = .ok (.iload_n 1, 1) := by decide +kernel
theorem dX10_dances_34 : decode cX10_dances 34 = .ok (.iaload, 1) := by decide +kernel
theorem dX10_dances_35 : decode cX10_dances 35 = .ok (.iastore, 1) := by decide +kernel
theorem dX10_dances_36 : decode cX10_dances 36 = .ok (.aload_n 0, 1) := by decide +kernel
theorem dX10_dances_37 : decode cX10_dances 37 = .ok (.getfield 62, 3) := by decide +kernel
theorem dX10_dances_40 : decode cX10_dances 40 = .ok (.iconst 0, 1) := by decide +kernel
theorem dX10_dances_41 : decode cX10_dances 41 = .ok (.iconst 2, 1) := by decide +kernel
theorem dX10_dances_42 : decode cX10_dances 42 = .ok (.iastore, 1) := by decide +kernel
theorem dX10_dances_43 : decode cX10_dances 43 = .ok (.aload_n 0, 1) := by decide +kernel
theorem dX10_dances_44 : decode cX10_dances 44 = .ok (.bipush (-9), 2) := by decide +kernel
theorem dX10_dances_46 : decode cX10_dances 46 = .ok (.putfield 155, 3) := by decide +kernel
theorem dX10_dances_49 : decode cX10_dances 49 = .ok (.iconst 0, 1) := by decide +kernel
theorem dX10_dances_50 : decode cX10_dances 50 = .ok (.istore_n 3, 1) := by decide +kernel
theorem dX10_dances_51 : decode cX10_dances 51 = .ok (.iload_n 3, 1) := by decide +kernel
theorem dX10_dances_52 : decode cX10_dances 52 = .ok (.bipush 10, 2) := by decide +kernel
theorem dX10_dances_54 : decode cX10_dances 54 = .ok (.if_icmp .ge 197, 3) := by decide +kernel
theorem dX10_dances_57 : decode cX10_dances 57 = .ok (.iload_n 3, 1) := by decide +kernel
theorem dX10_dances_58 : decode cX10_dances 58 = .ok (.aload_n 0, 1) := by decide +kernel
theorem dX10_dances_59 : decode cX10_dances 59 = .ok (.iload_n 1, 1) := by decide +kernel
theorem dX10_dances_60 : decode cX10_dances 60 = .ok (.invokevirtual 158, 3) := by decide +kernel
theorem dX10_dances_63 : decode cX10_dances 63 = .ok (.if_icmp .ge 26, 3) := by decide +kernel
theorem dX10_dances_66 : decode cX10_dances 66 = .ok (.iload_n 3, 1) := by decide +kernel
theorem dX10_dances_67 : decode cX10_dances 67 = .ok (.iload_n 2, 1) := by decide +kernel
theorem dX10_dances_68 : decode cX10_dances 68 = .ok (.if_icmp .eq 21, 3) := by decide +kernel
theorem dX10_dances_71 : decode cX10_dances 71 = .ok (.aload_n 0, 1) := by decide +kernel
theorem dX10_dances_72 : decode cX10_dances 72 = .ok (.getfield 155, 3) := by decide +kernel
theorem dX10_dances_75 : decode cX10_dances 75 = .ok (.bipush (-9), 2) := by decide +kernel
theorem dX10_dances_77 : decode cX10_dances 77 = .ok (.if_icmp .ne 12, 3) := by decide +kernel
theorem dX10_dances_80 : decode cX10_dances 80 = .ok (.aload_n 0, 1) := by decide +kernel
theorem dX10_dances_81 : decode cX10_dances 81 = .ok (.iload_n 1, 1) := by decide +kernel
theorem dX10_dances_82 : decode cX10_dances 82 = .ok (.iload_n 3, 1) := by decide +kernel
theorem dX10_dances_83 : decode cX10_dances 83 = .ok (.invokevirtual 161, 3) := by decide +kernel
theorem dX10_dances_86 : decode cX10_dances 86 = .ok (.goto 4, 3) := by decide +kernel
theorem dX10_dances_89 : decode cX10_dances 89 = .ok (.iconst 0, 1) := by decide +kernel
theorem dX10_dances_90 : decode cX10_dances 90 = .ok (.istore 4, 2) := by decide +kernel
theorem dX10_dances_92 : decode cX10_dances 92 = .ok (.aload_n 0, 1) := by decide +kernel
theorem dX10_dances_93 : decode cX10_dances 93 = .ok (.aload_n 0, 1) := by decide +kernel
theorem dX10_dances_94 : decode cX10_dances 94 = .ok (.getfield 53, 3) := by decide +kernel
theorem dX10_dances_97 : decode cX10_dances 97 = .ok (.iload_n 3, 1) := by decide +kernel
theorem dX10_dances_98 : decode cX10_dances 98 = .ok (.iaload, 1) := by decide +kernel

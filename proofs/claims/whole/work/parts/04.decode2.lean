set_option maxRecDepth 20000 in
theorem ggX3_readItem_X8_add : GoodIn wsX3_readItem wsX8_add := goodIn_r _ [31, 32, 33, 34, 35, 64, 65, 66, 67, 68] (by decide +kernel) (by decide +kernel)
set_option maxRecDepth 20000 in
theorem gX3_readItem_X8_add : GoodIn wsX3_readItem (wsV RX3 41 RX8 yX8_add wsX8_add) := goodIn_app (goodIn_of _ (by decide +kernel)) ggX3_readItem_X8_add
set_option maxRecDepth 20000 in
theorem ggX3_readItem_X3_advance : GoodIn wsX3_readItem wsX3_advance := goodIn_r _ [10, 11, 12, 1, 13, 14, 15, 16, 17, 18, 19, 20, 21, 22, 23, 24, 25, 5, 26, 61, 62, 63, 69, 70] (by decide +kernel) (by decide +kernel)
set_option maxRecDepth 20000 in
theorem gX3_readItem_X3_advance : GoodIn wsX3_readItem (wsV RX3 20 RX3 yX3_advance wsX3_advance) := goodIn_app (goodIn_of _ (by decide +kernel)) ggX3_readItem_X3_advance
set_option maxRecDepth 20000 in
theorem ggX3_readItem_X3_readSign : GoodIn wsX3_readItem wsX3_readSign := goodIn_r _ [39, 1, 40, 41, 5, 42, 2, 3, 4, 6, 7, 8, 9, 10, 11, 12, 13, 14, 15, 16, 17, 18, 19, 20, 21, 22, 23, 24, 25, 26, 61, 62, 63, 69, 70] (by decide +kernel) (by decide +kernel)
set_option maxRecDepth 20000 in
theorem gX3_readItem_X3_readSign : GoodIn wsX3_readItem (wsV RX3 45 RX3 yX3_readSign wsX3_readSign) := goodIn_app (goodIn_of _ (by decide +kernel)) ggX3_readItem_X3_readSign
set_option maxRecDepth 20000 in
theorem ggX3_readItem_X5_append : GoodIn wsX3_readItem wsX5_append := goodIn_r _ [47, 48, 49, 50, 46, 51, 52, 53, 54, 55, 56, 57, 58, 59, 60, 71, 72] (by decide +kernel) (by decide +kernel)
set_option maxRecDepth 20000 in
theorem gX3_readItem_X5_append : GoodIn wsX3_readItem (wsV RX3 53 RX5 yX5_append wsX5_append) := goodIn_app (goodIn_of _ (by decide +kernel)) ggX3_readItem_X5_append
theorem dX3_readItem_0 : decode cX3_readItem 0 = .ok (.aload_n 0, 1) := by decide +kernel
theorem dX3_readItem_1 : decode cX3_readItem 1 = .ok (.getfield 24, 3) := by decide +kernel
theorem dX3_readItem_4 : decode cX3_readItem 4 = .ok (.bipush 100, 2) := by decide +kernel
theorem dX3_readItem_6 : decode cX3_readItem 6 = .ok (.if_icmp .eq 5, 3) := by decide +kernel
theorem dX3_readItem_9 : decode cX3_readItem 9 = .ok (.iconst 0, 1) := by decide +kernel
theorem dX3_readItem_10 : decode cX3_readItem 10 = .ok (.ireturn, 1) := by decide +kernel
theorem dX3_readItem_11 : decode cX3_readItem 11 = .ok (.aload_n 0, 1) := by decide +kernel
theorem dX3_readItem_12 : decode cX3_readItem 12 = .ok (.aload_n 1, 1) := by decide +kernel
theorem dX3_readItem_13 : decode cX3_readItem 13 = .ok (.iconst 0, 1) := by decide +kernel
theorem dX3_readItem_14 : decode cX3_readItem 14 = .ok (.bipush 6, 2) := by decide +kernel
theorem dX3_readItem_16 : decode cX3_readItem 16 = .ok (.invokevirtual 37, 3) := by decide +kernel
theorem dX3_readItem_19 : decode cX3_readItem 19 = .ok (.istore_n 3, 1) := by decide +kernel
theorem dX3_readItem_20 : decode cX3_readItem 20 = .ok (.iload_n 3, 1) := by decide +kernel
theorem dX3_readItem_21 : decode cX3_readItem 21 = .ok (.bipush (-9), 2) := by decide +kernel
theorem dX3_readItem_23 : decode cX3_readItem 23 = .ok (.if_icmp .ne 8, 3) := by decide +kernel
theorem dX3_readItem_26 : decode cX3_readItem 26 = .ok (.bipush (-9), 2) := by decide +kernel
theorem dX3_readItem_28 : decode cX3_readItem 28 = .ok (.goto 11, 3) := by decide +kernel
theorem dX3_readItem_31 : decode cX3_readItem 31 = .ok (.aload_n 0, 1) := by decide +kernel
theorem dX3_readItem_32 : decode cX3_readItem 32 = .ok (.aload_n 1, 1) := by decide +kernel
theorem dX3_readItem_33 : decode cX3_readItem 33 = .ok (.iconst 0, 1) := by decide +kernel
theorem dX3_readItem_34 : decode cX3_readItem 34 = .ok (.bipush 6, 2) := by decide +kernel
theorem dX3_readItem_36 : decode cX3_readItem 36 = .ok (.invokevirtual 37, 3) := by decide +kernel
theorem dX3_readItem_39 : decode cX3_readItem 39 = .ok (.istore 4, 2) := by decide +kernel
theorem dX3_readItem_41 : decode cX3_readItem 41 = .ok (.iload 4, 2) := by decide +kernel
theorem dX3_readItem_43 : decode cX3_readItem 43 = .ok (.bipush (-9), 2) := by decide +kernel
theorem dX3_readItem_45 : decode cX3_readItem 45 = .ok (.if_icmp .ne 8, 3) := by decide +kernel
theorem dX3_readItem_48 : decode cX3_readItem 48 = .ok (.bipush (-9), 2) := by decide +kernel
theorem dX3_readItem_50 : decode cX3_readItem 50 = .ok (.goto 11, 3) := by decide +kernel
theorem dX3_readItem_53 : decode cX3_readItem 53 = .ok (.aload_n 0, 1) := by decide +kernel
theorem dX3_readItem_54 : decode cX3_readItem 54 = .ok (.aload_n 1, 1) := by decide +kernel
theorem dX3_readItem_55 : decode cX3_readItem 55 = .ok (.iconst 0, 1) := by decide +kernel
theorem dX3_readItem_56 : decode cX3_readItem 56 = .ok (.bipush 7, 2) := by decide +kernel
theorem dX3_readItem_58 : decode cX3_readItem 58 = .ok (.invokevirtual 37, 3) := by decide +kernel
theorem dX3_readItem_61 : decode cX3_readItem 61 = .ok (.istore 5, 2) := by decide +kernel
theorem dX3_readItem_63 : decode cX3_readItem 63 = .ok (.iload 5, 2) := by decide +kernel
theorem dX3_readItem_65 : decode cX3_readItem 65 = .ok (.bipush (-9), 2) := by decide +kernel
theorem dX3_readItem_67 : decode cX3_readItem 67 = .ok (.if_icmp .ne 5, 3) := by decide +kernel
theorem dX3_readItem_70 : decode cX3_readItem 70 = .ok (.iconst 0, 1) := by decide +kernel
theorem dX3_readItem_71 : decode cX3_readItem 71 = .ok (.ireturn, 1) := by decide +kernel
theorem dX3_readItem_72 : decode cX3_readItem 72 = .ok (.aload_n 2, 1) := by decide +kernel
theorem dX3_readItem_73 : decode cX3_readItem 73 = .ok (.getfield 34, 3) := by decide +kernel
theorem dX3_readItem_76 : decode cX3_readItem 76 = .ok (.istore 6, 2) := by decide +kernel
theorem dX3_readItem_78 : decode cX3_readItem 78 = .ok (.aload_n 2, 1) := by decide +kernel
theorem dX3_readItem_79 : decode cX3_readItem 79 = .ok (.iload_n 3, 1) := by decide +kernel
theorem dX3_readItem_80 : decode cX3_readItem 80 = .ok (.iload 4, 2) := by decide +kernel
theorem dX3_readItem_82 : decode cX3_readItem 82 = .ok (.iload 5, 2) := by decide +kernel
theorem dX3_readItem_84 : decode cX3_readItem 84 = .ok (.invokevirtual 41, 3) := by decide +kernel
theorem dX3_readItem_87 : decode cX3_readItem 87 = .ok (.aload_n 0, 1) := by decide +kernel
theorem dX3_readItem_88 : decode cX3_readItem 88 = .ok (.aload_n 1, 1) := by decide +kernel
theorem dX3_readItem_89 : decode cX3_readItem 89 = .ok (.invokevirtual 20, 3) := by decide +kernel
theorem dX3_readItem_92 : decode cX3_readItem 92 = .ok (.iconst 0, 1) := by decide +kernel
theorem dX3_readItem_93 : decode cX3_readItem 93 = .ok (.istore 7, 2) := by decide +kernel
theorem dX3_readItem_95 : decode cX3_readItem 95 = .ok (.iload 7, 2) := by decide +kernel
theorem dX3_readItem_97 : decode cX3_readItem 97 = .ok (.bipush 10, 2) := by decide +kernel
theorem dX3_readItem_99 : decode cX3_readItem 99 = .ok (.if_icmp .ge 50, 3) := by decide +kernel
theorem dX3_readItem_102 : decode cX3_readItem 102 = .ok (.aload_n 0, 1) := by decide +kernel
theorem dX3_readItem_103 : decode cX3_readItem 103 = .ok (.getfield 24, 3) := by decide +kernel
theorem dX3_readItem_106 : decode cX3_readItem 106 = .ok (.bipush 59, 2) := by decide +kernel
theorem dX3_readItem_108 : decode cX3_readItem 108 = .ok (.if_icmp .eq 41, 3) := by decide +kernel
theorem dX3_readItem_111 : decode cX3_readItem 111 = .ok (.aload_n 0, 1) := by decide +kernel
theorem dX3_readItem_112 : decode cX3_readItem 112 = .ok (.aload_n 1, 1) := by decide +kernel
theorem dX3_readItem_113 : decode cX3_readItem 113 = .ok (.invokevirtual 45, 3) := by decide +kernel
theorem dX3_readItem_116 : decode cX3_readItem 116 = .ok (.istore 8, 2) := by decide +kernel
theorem dX3_readItem_118 : decode cX3_readItem 118 = .ok (.iload 8, 2) := by decide +kernel
theorem dX3_readItem_120 : decode cX3_readItem 120 = .ok (.bipush (-9), 2) := by decide +kernel
theorem dX3_readItem_122 : decode cX3_readItem 122 = .ok (.if_icmp .ne 5, 3) := by decide +kernel
theorem dX3_readItem_125 : decode cX3_readItem 125 = .ok (.iconst 0, 1) := by decide +kernel
theorem dX3_readItem_126 : decode cX3_readItem 126 = .ok (.ireturn, 1) := by decide +kernel
theorem dX3_readItem_127 : decode cX3_readItem 127 = .ok (.aload_n 2, 1) := by decide +kernel
theorem dX3_readItem_128 : decode cX3_readItem 128 = .ok (.getfield 49, 3) := by decide +kernel
theorem dX3_readItem_131 : decode cX3_readItem 131 = .ok (.iload 6, 2) := by decide +kernel
theorem dX3_readItem_133 : decode cX3_readItem 133 = .ok (.iload 8, 2) := by decide +kernel
theorem dX3_readItem_135 : decode cX3_readItem 135 = .ok (.invokevirtual 53, 3) := by decide +kernel
theorem dX3_readItem_138 : decode cX3_readItem 138 = .ok (.aload_n 0, 1) := by decide +kernel
theorem dX3_readItem_139 : decode cX3_readItem 139 = .ok (.aload_n 1, 1) := by decide +kernel
theorem dX3_readItem_140 : decode cX3_readItem 140 = .ok (.invokevirtual 20, 3) := by decide +kernel
theorem dX3_readItem_143 : decode cX3_readItem 143 = .ok (.iinc 7 1, 3) := by decide +kernel
theorem dX3_readItem_146 : decode cX3_readItem 146 = .ok (.goto (-51), 3) := by decide +kernel
theorem dX3_readItem_149 : decode cX3_readItem 149 = .ok (.aload_n 0, 1) := by decide +kernel
theorem dX3_readItem_150 : decode cX3_readItem 150 = .ok (.getfield 24, 3) := by decide +kernel
theorem dX3_readItem_153 : decode cX3_readItem 153 = .ok (.bipush 59, 2) := by decide +kernel
theorem dX3_readItem_155 : decode cX3_readItem 155 = .ok (.if_icmp .ne 7, 3) := by decide +kernel
theorem dX3_readItem_158 : decode cX3_readItem 158 = .ok (.iconst 1, 1) := by decide +kernel
theorem dX3_readItem_159 : decode cX3_readItem 159 = .ok (.goto 4, 3) := by decide +kernel
theorem dX3_readItem_162 : decode cX3_readItem 162 = .ok (.iconst 0, 1) := by decide +kernel
theorem dX3_readItem_163 : decode cX3_readItem 163 = .ok (.ireturn, 1) := by decide +kernel
set_option maxRecDepth 20000 in
theorem ggX3_readSign_X3_firstSignOf : GoodIn wsX3_readSign wsX3_firstSignOf := goodIn_r _ [5] (by decide +kernel) (by decide +kernel)
set_option maxRecDepth 20000 in
theorem gX3_readSign_X3_firstSignOf : GoodIn wsX3_readSign (va_wsS RX3 59 yX3_firstSignOf wsX3_firstSignOf) := goodIn_app (goodIn_of _ (by decide +kernel)) ggX3_readSign_X3_firstSignOf
set_option maxRecDepth 20000 in
theorem ggX3_readSign_X3_readNumber : GoodIn wsX3_readSign wsX3_readNumber := goodIn_r _ [9, 1, 10, 11, 12, 4, 13, 14, 15, 16, 17, 18, 19, 20, 21, 22, 23, 24, 25, 26, 27, 28, 29, 30, 31, 32, 33, 34] (by decide +kernel) (by decide +kernel)
set_option maxRecDepth 20000 in
theorem gX3_readSign_X3_readNumber : GoodIn wsX3_readSign (wsV RX3 37 RX3 yX3_readNumber wsX3_readNumber) := goodIn_app (goodIn_of _ (by decide +kernel)) ggX3_readSign_X3_readNumber
theorem dX3_readSign_0 : decode cX3_readSign 0 = .ok (.aload_n 0, 1) := by decide +kernel
theorem dX3_readSign_1 : decode cX3_readSign 1 = .ok (.getfield 24, 3) := by decide +kernel
theorem dX3_readSign_4 : decode cX3_readSign 4 = .ok (.bipush 46, 2) := by decide +kernel
theorem dX3_readSign_6 : decode cX3_readSign 6 = .ok (.if_icmp .ne 5, 3) := by decide +kernel
theorem dX3_readSign_9 : decode cX3_readSign 9 = .ok (.iconst 0, 1) := by decide +kernel
theorem dX3_readSign_10 : decode cX3_readSign 10 = .ok (.ireturn, 1) := by decide +kernel
theorem dX3_readSign_11 : decode cX3_readSign 11 = .ok (.aload_n 0, 1) := by decide +kernel
theorem dX3_readSign_12 : decode cX3_readSign 12 = .ok (.getfield 24, 3) := by decide +kernel
theorem dX3_readSign_15 : decode cX3_readSign 15 = .ok (.bipush 99, 2) := by decide +kernel
theorem dX3_readSign_17 : decode cX3_readSign 17 = .ok (.if_icmp .ne 5, 3) := by decide +kernel
theorem dX3_readSign_20 : decode cX3_readSign 20 = .ok (.iconst 1, 1) := by decide +kernel
theorem dX3_readSign_21 : decode cX3_readSign 21 = .ok (.ireturn, 1) := by decide +kernel
theorem dX3_readSign_22 : decode cX3_readSign 22 = .ok (.aload_n 0, 1) := by decide +kernel
theorem dX3_readSign_23 : decode cX3_readSign 23 = .ok (.getfield 24, 3) := by decide +kernel
theorem dX3_readSign_26 : decode cX3_readSign 26 = .ok (.invokestatic 59, 3) := by decide +kernel
theorem dX3_readSign_29 : decode cX3_readSign 29 = .ok (.istore_n 2, 1) := by decide +kernel
theorem dX3_readSign_30 : decode cX3_readSign 30 = .ok (.iload_n 2, 1) := by decide +kernel
theorem dX3_readSign_31 : decode cX3_readSign 31 = .ok (.bipush (-9), 2) := by decide +kernel
theorem dX3_readSign_33 : decode cX3_readSign 33 = .ok (.if_icmp .ne 6, 3) := by decide +kernel
theorem dX3_readSign_36 : decode cX3_readSign 36 = .ok (.bipush (-9), 2) := by decide +kernel
theorem dX3_readSign_38 : decode cX3_readSign 38 = .ok (.ireturn, 1) := by decide +kernel
theorem dX3_readSign_39 : decode cX3_readSign 39 = .ok (.iload_n 2, 1) := by decide +kernel
theorem dX3_readSign_40 : decode cX3_readSign 40 = .ok (.bipush 26, 2) := by decide +kernel
theorem dX3_readSign_42 : decode cX3_readSign 42 = .ok (.if_icmp .ne 7, 3) := by decide +kernel
theorem dX3_readSign_45 : decode cX3_readSign 45 = .ok (.iconst 1, 1) := by decide +kernel
theorem dX3_readSign_46 : decode cX3_readSign 46 = .ok (.goto 4, 3) := by decide +kernel
theorem dX3_readSign_49 : decode cX3_readSign 49 = .ok (.iconst 0, 1) := by decide +kernel
theorem dX3_readSign_50 : decode cX3_readSign 50 = .ok (.istore_n 3, 1) := by decide +kernel
theorem dX3_readSign_51 : decode cX3_readSign 51 = .ok (.aload_n 0, 1) := by decide +kernel
theorem dX3_readSign_52 : decode cX3_readSign 52 = .ok (.aload_n 1, 1) := by decide +kernel
theorem dX3_readSign_53 : decode cX3_readSign 53 = .ok (.iload_n 3, 1) := by decide +kernel
theorem dX3_readSign_54 : decode cX3_readSign 54 = .ok (.bipush 7, 2) := by decide +kernel
theorem dX3_readSign_56 : decode cX3_readSign 56 = .ok (.invokevirtual 37, 3) := by decide +kernel
theorem dX3_readSign_59 : decode cX3_readSign 59 = .ok (.istore 4, 2) := by decide +kernel
theorem dX3_readSign_61 : decode cX3_readSign 61 = .ok (.iload 4, 2) := by decide +kernel
theorem dX3_readSign_63 : decode cX3_readSign 63 = .ok (.bipush (-9), 2) := by decide +kernel
theorem dX3_readSign_65 : decode cX3_readSign 65 = .ok (.if_icmp .ne 8, 3) := by decide +kernel
theorem dX3_readSign_68 : decode cX3_readSign 68 = .ok (.bipush (-9), 2) := by decide +kernel
theorem dX3_readSign_70 : decode cX3_readSign 70 = .ok (.goto 9, 3) := by decide +kernel
theorem dX3_readSign_73 : decode cX3_readSign 73 = .ok (.iload_n 2, 1) := by decide +kernel
theorem dX3_readSign_74 : decode cX3_readSign 74 = .ok (.iload 4, 2) := by decide +kernel
theorem dX3_readSign_76 : decode cX3_readSign 76 = .ok (.iadd, 1) := by decide +kernel
theorem dX3_readSign_77 : decode cX3_readSign 77 = .ok (.iload_n 3, 1) := by decide +kernel
theorem dX3_readSign_78 : decode cX3_readSign 78 = .ok (.isub, 1) := by decide +kernel
theorem dX3_readSign_79 : decode cX3_readSign 79 = .ok (.ireturn, 1) := by decide +kernel
theorem dX3_firstSignOf_0 : decode cX3_firstSignOf 0 = .ok (.iload_n 0, 1) := by decide +kernel
theorem dX3_firstSignOf_1 : decode cX3_firstSignOf 1 = .ok (.lookupswitch 54 #[(106, 48), (108, 43), (114, 45), (116, 51)], 43) := by decide +kernel
theorem dX3_firstSignOf_44 : decode cX3_firstSignOf 44 = .ok (.iconst 2, 1) := by decide +kernel
theorem dX3_firstSignOf_45 : decode cX3_firstSignOf 45 = .ok (.ireturn, 1) := by decide +kernel
theorem dX3_firstSignOf_46 : decode cX3_firstSignOf 46 = .ok (.bipush 10, 2) := by decide +kernel
theorem dX3_firstSignOf_48 : decode cX3_firstSignOf 48 = .ok (.ireturn, 1) := by decide +kernel
theorem dX3_firstSignOf_49 : decode cX3_firstSignOf 49 = .ok (.bipush 18, 2) := by decide +kernel
theorem dX3_firstSignOf_51 : decode cX3_firstSignOf 51 = .ok (.ireturn, 1) := by decide +kernel
theorem dX3_firstSignOf_52 : decode cX3_firstSignOf 52 = .ok (.bipush 26, 2) := by decide +kernel
theorem dX3_firstSignOf_54 : decode cX3_firstSignOf 54 = .ok (.ireturn, 1) := by decide +kernel
theorem dX3_firstSignOf_55 : decode cX3_firstSignOf 55 = .ok (.bipush (-9), 2) := by decide +kernel
theorem dX3_firstSignOf_57 : decode cX3_firstSignOf 57 = .ok (.ireturn, 1) := by decide +kernel
set_option maxRecDepth 20000 in
theorem ggX3_readNumber_X3_advance : GoodIn wsX3_readNumber wsX3_advance := goodIn_r _ [6, 7, 8, 1, 9, 10, 11, 12, 13, 14, 15, 16, 17, 18, 19, 20, 21, 5, 22, 23, 24, 25, 26, 27] (by decide +kernel) (by decide +kernel)
set_option maxRecDepth 20000 in
theorem gX3_readNumber_X3_advance : GoodIn wsX3_readNumber (wsV RX3 20 RX3 yX3_advance wsX3_advance) := goodIn_app (goodIn_of _ (by decide +kernel)) ggX3_readNumber_X3_advance
set_option maxRecDepth 20000 in
theorem ggX3_readNumber_X3_isDigit : GoodIn wsX3_readNumber wsX3_isDigit := goodIn_r _ [22] (by decide +kernel) (by decide +kernel)
set_option maxRecDepth 20000 in
theorem gX3_readNumber_X3_isDigit : GoodIn wsX3_readNumber (va_wsS RX3 63 yX3_isDigit wsX3_isDigit) := goodIn_app (goodIn_of _ (by decide +kernel)) ggX3_readNumber_X3_isDigit
theorem dX3_readNumber_0 : decode cX3_readNumber 0 = .ok (.aload_n 0, 1) := by decide +kernel
theorem dX3_readNumber_1 : decode cX3_readNumber 1 = .ok (.aload_n 1, 1) := by decide +kernel
theorem dX3_readNumber_2 : decode cX3_readNumber 2 = .ok (.invokevirtual 20, 3) := by decide +kernel
theorem dX3_readNumber_5 : decode cX3_readNumber 5 = .ok (.aload_n 0, 1) := by decide +kernel
theorem dX3_readNumber_6 : decode cX3_readNumber 6 = .ok (.getfield 24, 3) := by decide +kernel
theorem dX3_readNumber_9 : decode cX3_readNumber 9 = .ok (.invokestatic 63, 3) := by decide +kernel
theorem dX3_readNumber_12 : decode cX3_readNumber 12 = .ok (.ifCond .ne 6, 3) := by decide +kernel
theorem dX3_readNumber_15 : decode cX3_readNumber 15 = .ok (.bipush (-9), 2) := by decide +kernel
theorem dX3_readNumber_17 : decode cX3_readNumber 17 = .ok (.ireturn, 1) := by decide +kernel
theorem dX3_readNumber_18 : decode cX3_readNumber 18 = .ok (.aload_n 0, 1) := by decide +kernel
theorem dX3_readNumber_19 : decode cX3_readNumber 19 = .ok (.getfield 24, 3) := by decide +kernel
theorem dX3_readNumber_22 : decode cX3_readNumber 22 = .ok (.bipush 48, 2) := by decide +kernel
theorem dX3_readNumber_24 : decode cX3_readNumber 24 = .ok (.isub, 1) := by decide +kernel
theorem dX3_readNumber_25 : decode cX3_readNumber 25 = .ok (.istore 4, 2) := by decide +kernel
theorem dX3_readNumber_27 : decode cX3_readNumber 27 = .ok (.iload 4, 2) := by decide +kernel
theorem dX3_readNumber_29 : decode cX3_readNumber 29 = .ok (.iload_n 2, 1) := by decide +kernel
theorem dX3_readNumber_30 : decode cX3_readNumber 30 = .ok (.if_icmp .lt 14, 3) := by decide +kernel
theorem dX3_readNumber_33 : decode cX3_readNumber 33 = .ok (.iload 4, 2) := by decide +kernel
theorem dX3_readNumber_35 : decode cX3_readNumber 35 = .ok (.iload_n 3, 1) := by decide +kernel
theorem dX3_readNumber_36 : decode cX3_readNumber 36 = .ok (.if_icmp .gt 8, 3) := by decide +kernel
theorem dX3_readNumber_39 : decode cX3_readNumber 39 = .ok (.iload 4, 2) := by decide +kernel
theorem dX3_readNumber_41 : decode cX3_readNumber 41 = .ok (.goto 5, 3) := by decide +kernel
theorem dX3_readNumber_44 : decode cX3_readNumber 44 = .ok (.bipush (-9), 2) := by decide +kernel
theorem dX3_readNumber_46 : decode cX3_readNumber 46 = .ok (.ireturn, 1) := by decide +kernel
set_option maxRecDepth 20000 in
theorem ggX3_advance_X7_length : GoodIn wsX3_advance wsX7_length := goodIn_r _ [8, 9, 22, 23] (by decide +kernel) (by decide +kernel)
set_option maxRecDepth 20000 in
theorem gX3_advance_X7_length : GoodIn wsX3_advance (wsV RX3 67 RX7 yX7_length wsX7_length) := goodIn_app (goodIn_of _ (by decide +kernel)) ggX3_advance_X7_length
set_option maxRecDepth 20000 in
theorem ggX3_advance_X7_letterAt : GoodIn wsX3_advance wsX7_letterAt := goodIn_r _ [13, 9, 14, 22, 23] (by decide +kernel) (by decide +kernel)
set_option maxRecDepth 20000 in
theorem gX3_advance_X7_letterAt : GoodIn wsX3_advance (wsV RX3 73 RX7 yX7_letterAt wsX7_letterAt) := goodIn_app (goodIn_of _ (by decide +kernel)) ggX3_advance_X7_letterAt
set_option maxRecDepth 20000 in
theorem ggX3_advance_X3_isDigit : GoodIn wsX3_advance wsX3_isDigit := goodIn_r _ [18] (by decide +kernel) (by decide +kernel)
set_option maxRecDepth 20000 in
theorem gX3_advance_X3_isDigit : GoodIn wsX3_advance (va_wsS RX3 63 yX3_isDigit wsX3_isDigit) := goodIn_app (goodIn_of _ (by decide +kernel)) ggX3_advance_X3_isDigit
theorem dX3_advance_0 : decode cX3_advance 0 = .ok (.aload_n 0, 1) := by decide +kernel
theorem dX3_advance_1 : decode cX3_advance 1 = .ok (.getfield 14, 3) := by decide +kernel
theorem dX3_advance_4 : decode cX3_advance 4 = .ok (.aload_n 1, 1) := by decide +kernel
theorem dX3_advance_5 : decode cX3_advance 5 = .ok (.invokevirtual 67, 3) := by decide +kernel
theorem dX3_advance_8 : decode cX3_advance 8 = .ok (.if_icmp .ge 29, 3) := by decide +kernel
theorem dX3_advance_11 : decode cX3_advance 11 = .ok (.aload_n 1, 1) := by decide +kernel
theorem dX3_advance_12 : decode cX3_advance 12 = .ok (.aload_n 0, 1) := by decide +kernel
theorem dX3_advance_13 : decode cX3_advance 13 = .ok (.getfield 14, 3) := by decide +kernel
theorem dX3_advance_16 : decode cX3_advance 16 = .ok (.invokevirtual 73, 3) := by decide +kernel
theorem dX3_advance_19 : decode cX3_advance 19 = .ok (.bipush 32, 2) := by decide +kernel
theorem dX3_advance_21 : decode cX3_advance 21 = .ok (.if_icmp .ne 16, 3) := by decide +kernel
theorem dX3_advance_24 : decode cX3_advance 24 = .ok (.aload_n 0, 1) := by decide +kernel
theorem dX3_advance_25 : decode cX3_advance 25 = .ok (.dup, 1) := by decide +kernel
theorem dX3_advance_26 : decode cX3_advance 26 = .ok (.getfield 14, 3) := by decide +kernel
theorem dX3_advance_29 : decode cX3_advance 29 = .ok (.iconst 1, 1) := by decide +kernel
theorem dX3_advance_30 : decode cX3_advance 30 = .ok (.iadd, 1) := by decide +kernel
theorem dX3_advance_31 : decode cX3_advance 31 = .ok (.putfield 14, 3) := by decide +kernel
theorem dX3_advance_34 : decode cX3_advance 34 = .ok (.goto (-34), 3) := by decide +kernel
theorem dX3_advance_37 : decode cX3_advance 37 = .ok (.aload_n 0, 1) := by decide +kernel
theorem dX3_advance_38 : decode cX3_advance 38 = .ok (.aload_n 0, 1) := by decide +kernel
theorem dX3_advance_39 : decode cX3_advance 39 = .ok (.getfield 14, 3) := by decide +kernel
theorem dX3_advance_42 : decode cX3_advance 42 = .ok (.putfield 31, 3) := by decide +kernel
theorem dX3_advance_45 : decode cX3_advance 45 = .ok (.aload_n 0, 1) := by decide +kernel
theorem dX3_advance_46 : decode cX3_advance 46 = .ok (.aload_n 1, 1) := by decide +kernel
theorem dX3_advance_47 : decode cX3_advance 47 = .ok (.aload_n 0, 1) := by decide +kernel
theorem dX3_advance_48 : decode cX3_advance 48 = .ok (.getfield 31, 3) := by decide +kernel
theorem dX3_advance_51 : decode cX3_advance 51 = .ok (.invokevirtual 73, 3) := by decide +kernel
theorem dX3_advance_54 : decode cX3_advance 54 = .ok (.putfield 24, 3) := by decide +kernel
theorem dX3_advance_57 : decode cX3_advance 57 = .ok (.aload_n 0, 1) := by decide +kernel
theorem dX3_advance_58 : decode cX3_advance 58 = .ok (.dup, 1) := by decide +kernel
theorem dX3_advance_59 : decode cX3_advance 59 = .ok (.getfield 14, 3) := by decide +kernel
theorem dX3_advance_62 : decode cX3_advance 62 = .ok (.iconst 1, 1) := by decide +kernel
theorem dX3_advance_63 : decode cX3_advance 63 = .ok (.iadd, 1) := by decide +kernel
theorem dX3_advance_64 : decode cX3_advance 64 = .ok (.putfield 14, 3) := by decide +kernel
theorem dX3_advance_67 : decode cX3_advance 67 = .ok (.aload_n 0, 1) := by decide +kernel
theorem dX3_advance_68 : decode cX3_advance 68 = .ok (.getfield 24, 3) := by decide +kernel
theorem dX3_advance_71 : decode cX3_advance 71 = .ok (.invokestatic 63, 3) := by decide +kernel
theorem dX3_advance_74 : decode cX3_advance 74 = .ok (.ifCond .eq 24, 3) := by decide +kernel
theorem dX3_advance_77 : decode cX3_advance 77 = .ok (.aload_n 1, 1) := by decide +kernel
theorem dX3_advance_78 : decode cX3_advance 78 = .ok (.aload_n 0, 1) := by decide +kernel
theorem dX3_advance_79 : decode cX3_advance 79 = .ok (.getfield 14, 3) := by decide +kernel
theorem dX3_advance_82 : decode cX3_advance 82 = .ok (.invokevirtual 73, 3) := by decide +kernel
theorem dX3_advance_85 : decode cX3_advance 85 = .ok (.invokestatic 63, 3) := by decide +kernel
theorem dX3_advance_88 : decode cX3_advance 88 = .ok (.ifCond .eq 10, 3) := by decide +kernel
theorem dX3_advance_91 : decode cX3_advance 91 = .ok (.aload_n 0, 1) := by decide +kernel
theorem dX3_advance_92 : decode cX3_advance 92 = .ok (.sipush 256, 3) := by decide +kernel
theorem dX3_advance_95 : decode cX3_advance 95 = .ok (.putfield 24, 3) := by decide +kernel
theorem dX3_advance_98 : decode cX3_advance 98 = .ok (.return_, 1) := by decide +kernel
theorem dX3_isDigit_0 : decode cX3_isDigit 0 = .ok (.iload_n 0, 1) := by decide +kernel
theorem dX3_isDigit_1 : decode cX3_isDigit 1 = .ok (.bipush 48, 2) := by decide +kernel
theorem dX3_isDigit_3 : decode cX3_isDigit 3 = .ok (.if_icmp .lt 13, 3) := by decide +kernel
theorem dX3_isDigit_6 : decode cX3_isDigit 6 = .ok (.iload_n 0, 1) := by decide +kernel
theorem dX3_isDigit_7 : decode cX3_isDigit 7 = .ok (.bipush 57, 2) := by decide +kernel
theorem dX3_isDigit_9 : decode cX3_isDigit 9 = .ok (.if_icmp .gt 7, 3) := by decide +kernel
theorem dX3_isDigit_12 : decode cX3_isDigit 12 = .ok (.iconst 1, 1) := by decide +kernel
theorem dX3_isDigit_13 : decode cX3_isDigit 13 = .ok (.goto 4, 3) := by decide +kernel
theorem dX3_isDigit_16 : decode cX3_isDigit 16 = .ok (.iconst 0, 1) := by decide +kernel
theorem dX3_isDigit_17 : decode cX3_isDigit 17 = .ok (.ireturn, 1) := by decide +kernel
theorem dX4_init_0 : decode cX4_init 0 = .ok (.aload_n 0, 1) := by decide +kernel
theorem dX4_init_1 : decode cX4_init 1 = .ok (.invokespecial 3, 3) := by decide +kernel
theorem dX4_init_4 : decode cX4_init 4 = .ok (.aload_n 0, 1) := by decide +kernel
theorem dX4_init_5 : decode cX4_init 5 = .ok (.bipush 6, 2) := by decide +kernel
theorem dX4_init_7 : decode cX4_init 7 = .ok (.newarray .int, 2) := by decide +kernel
theorem dX4_init_9 : decode cX4_init 9 = .ok (.putfield 9, 3) := by decide +kernel
theorem dX4_init_12 : decode cX4_init 12 = .ok (.aload_n 0, 1) := by decide +kernel
theorem dX4_init_13 : decode cX4_init 13 = .ok (.bipush 6, 2) := by decide +kernel
theorem dX4_init_15 : decode cX4_init 15 = .ok (.newarray .int, 2) := by decide +kernel
theorem dX4_init_17 : decode cX4_init 17 = .ok (.putfield 15, 3) := by decide +kernel
theorem dX4_init_20 : decode cX4_init 20 = .ok (.aload_n 0, 1) := by decide +kernel
theorem dX4_init_21 : decode cX4_init 21 = .ok (.bipush 6, 2) := by decide +kernel
theorem dX4_init_23 : decode cX4_init 23 = .ok (.newarray .int, 2) := by decide +kernel
theorem dX4_init_25 : decode cX4_init 25 = .ok (.putfield 18, 3) := by decide +kernel
theorem dX4_init_28 : decode cX4_init 28 = .ok (.aload_n 0, 1) := by decide +kernel
theorem dX4_init_29 : decode cX4_init 29 = .ok (.iconst 0, 1) := by decide +kernel
theorem dX4_init_30 : decode cX4_init 30 = .ok (.putfield 21, 3) := by decide +kernel
theorem dX4_init_33 : decode cX4_init 33 = .ok (.return_, 1) := by decide +kernel
theorem dX4_empty_0 : decode cX4_empty 0 = .ok (.aload_n 0, 1) := by decide +kernel
theorem dX4_empty_1 : decode cX4_empty 1 = .ok (.iconst 0, 1) := by decide +kernel
theorem dX4_empty_2 : decode cX4_empty 2 = .ok (.putfield 21, 3) := by decide +kernel
theorem dX4_empty_5 : decode cX4_empty 5 = .ok (.return_, 1) := by decide +kernel
theorem dX4_add_0 : decode cX4_add 0 = .ok (.aload_n 0, 1) := by decide +kernel
theorem dX4_add_1 : decode cX4_add 1 = .ok (.getfield 21, 3) := by decide +kernel
theorem dX4_add_4 : decode cX4_add 4 = .ok (.bipush 6, 2) := by decide +kernel
theorem dX4_add_6 : decode cX4_add 6 = .ok (.if_icmp .lt 5, 3) := by decide +kernel
theorem dX4_add_9 : decode cX4_add 9 = .ok (.iconst 0, 1) := by decide +kernel
theorem dX4_add_10 : decode cX4_add 10 = .ok (.ireturn, 1) := by decide +kernel
theorem dX4_add_11 : decode cX4_add 11 = .ok (.aload_n 0, 1) := by decide +kernel
theorem dX4_add_12 : decode cX4_add 12 = .ok (.getfield 9, 3) := by decide +kernel
theorem dX4_add_15 : decode cX4_add 15 = .ok (.aload_n 0, 1) := by decide +kernel
theorem dX4_add_16 : decode cX4_add 16 = .ok (.getfield 21, 3) := by decide +kernel
theorem dX4_add_19 : decode cX4_add 19 = .ok (.iload_n 1, 1) := by decide +kernel
theorem dX4_add_20 : decode cX4_add 20 = .ok (.iastore, 1) := by decide +kernel
theorem dX4_add_21 : decode cX4_add 21 = .ok (.aload_n 0, 1) := by decide +kernel
theorem dX4_add_22 : decode cX4_add 22 = .ok (.getfield 15, 3) := by decide +kernel
theorem dX4_add_25 : decode cX4_add 25 = .ok (.aload_n 0, 1) := by decide +kernel
theorem dX4_add_26 : decode cX4_add 26 = .ok (.getfield 21, 3) := by decide +kernel
theorem dX4_add_29 : decode cX4_add 29 = .ok (.iload_n 2, 1) := by decide +kernel
theorem dX4_add_30 : decode cX4_add 30 = .ok (.iastore, 1) := by decide +kernel
theorem dX4_add_31 : decode cX4_add 31 = .ok (.aload_n 0, 1) := by decide +kernel
theorem dX4_add_32 : decode cX4_add 32 = .ok (.getfield 18, 3) := by decide +kernel
theorem dX4_add_35 : decode cX4_add 35 = .ok (.aload_n 0, 1) := by decide +kernel
theorem dX4_add_36 : decode cX4_add 36 = .ok (.getfield 21, 3) := by decide +kernel
theorem dX4_add_39 : decode cX4_add 39 = .ok (.iload_n 3, 1) := by decide +kernel
theorem dX4_add_40 : decode cX4_add 40 = .ok (.iastore, 1) := by decide +kernel
theorem dX4_add_41 : decode cX4_add 41 = .ok (.aload_n 0, 1) := by decide +kernel
theorem dX4_add_42 : decode cX4_add 42 = .ok (.dup, 1) := by decide +kernel
theorem dX4_add_43 : decode cX4_add 43 = .ok (.getfield 21, 3) := by decide +kernel
theorem dX4_add_46 : decode cX4_add 46 = .ok (.iconst 1, 1) := by decide +kernel
theorem dX4_add_47 : decode cX4_add 47 = .ok (.iadd, 1) := by decide +kernel
theorem dX4_add_48 : decode cX4_add 48 = .ok (.putfield 21, 3) := by decide +kernel
theorem dX4_add_51 : decode cX4_add 51 = .ok (.iconst 1, 1) := by decide +kernel
theorem dX4_add_52 : decode cX4_add 52 = .ok (.ireturn, 1) := by decide +kernel
set_option maxRecDepth 20000 in
theorem ggX4_agreeWith_X0_isAt : GoodIn wsX4_agreeWith wsX0_isAt := goodIn_r _ [9, 10, 11, 12, 13, 14, 19, 20, 21, 22, 23, 24] (by decide +kernel) (by decide +kernel)
set_option maxRecDepth 20000 in
theorem gX4_agreeWith_X0_isAt : GoodIn wsX4_agreeWith (wsV RX4 25 RX0 yX0_isAt wsX0_isAt) := goodIn_app (goodIn_of _ (by decide +kernel)) ggX4_agreeWith_X0_isAt
theorem dX4_agreeWith_0 : decode cX4_agreeWith 0 = .ok (.iconst 0, 1) := by decide +kernel
theorem dX4_agreeWith_1 : decode cX4_agreeWith 1 = .ok (.istore_n 2, 1) := by decide +kernel
theorem dX4_agreeWith_2 : decode cX4_agreeWith 2 = .ok (.iload_n 2, 1) := by decide +kernel
theorem dX4_agreeWith_3 : decode cX4_agreeWith 3 = .ok (.aload_n 0, 1) := by decide +kernel
theorem dX4_agreeWith_4 : decode cX4_agreeWith 4 = .ok (.getfield 21, 3) := by decide +kernel
theorem dX4_agreeWith_7 : decode cX4_agreeWith 7 = .ok (.if_icmp .ge 42, 3) := by decide +kernel
theorem dX4_agreeWith_10 : decode cX4_agreeWith 10 = .ok (.iload_n 2, 1) := by decide +kernel
theorem dX4_agreeWith_11 : decode cX4_agreeWith 11 = .ok (.bipush 6, 2) := by decide +kernel
theorem dX4_agreeWith_13 : decode cX4_agreeWith 13 = .ok (.if_icmp .ge 36, 3) := by decide +kernel
theorem dX4_agreeWith_16 : decode cX4_agreeWith 16 = .ok (.aload_n 1, 1) := by decide +kernel
theorem dX4_agreeWith_17 : decode cX4_agreeWith 17 = .ok (.aload_n 0, 1) := by decide +kernel
theorem dX4_agreeWith_18 : decode cX4_agreeWith 18 = .ok (.getfield 9, 3) := by decide +kernel
theorem dX4_agreeWith_21 : decode cX4_agreeWith 21 = .ok (.iload_n 2, 1) := by decide +kernel
theorem dX4_agreeWith_22 : decode cX4_agreeWith 22 = .ok (.iaload, 1) := by decide +kernel
theorem dX4_agreeWith_23 : decode cX4_agreeWith 23 = .ok (.aload_n 0, 1) := by decide +kernel
theorem dX4_agreeWith_24 : decode cX4_agreeWith 24 = .ok (.getfield 15, 3) := by decide +kernel
theorem dX4_agreeWith_27 : decode cX4_agreeWith 27 = .ok (.iload_n 2, 1) := by decide +kernel
theorem dX4_agreeWith_28 : decode cX4_agreeWith 28 = .ok (.iaload, 1) := by decide +kernel
theorem dX4_agreeWith_29 : decode cX4_agreeWith 29 = .ok (.aload_n 0, 1) := by decide +kernel
theorem dX4_agreeWith_30 : decode cX4_agreeWith 30 = .ok (.getfield 18, 3) := by decide +kernel
theorem dX4_agreeWith_33 : decode cX4_agreeWith 33 = .ok (.iload_n 2, 1) := by decide +kernel
theorem dX4_agreeWith_34 : decode cX4_agreeWith 34 = .ok (.iaload, 1) := by decide +kernel
theorem dX4_agreeWith_35 : decode cX4_agreeWith 35 = .ok (.invokevirtual 25, 3) := by decide +kernel
theorem dX4_agreeWith_38 : decode cX4_agreeWith 38 = .ok (.ifCond .ne 5, 3) := by decide +kernel
theorem dX4_agreeWith_41 : decode cX4_agreeWith 41 = .ok (.iconst 0, 1) := by decide +kernel
theorem dX4_agreeWith_42 : decode cX4_agreeWith 42 = .ok (.ireturn, 1) := by decide +kernel
theorem dX4_agreeWith_43 : decode cX4_agreeWith 43 = .ok (.iinc 2 1, 3) := by decide +kernel
theorem dX4_agreeWith_46 : decode cX4_agreeWith 46 = .ok (.goto (-44), 3) := by decide +kernel
theorem dX4_agreeWith_49 : decode cX4_agreeWith 49 = .ok (.iconst 1, 1) := by decide +kernel
theorem dX4_agreeWith_50 : decode cX4_agreeWith 50 = .ok (.ireturn, 1) := by decide +kernel
theorem dX5_init_0 : decode cX5_init 0 = .ok (.aload_n 0, 1) := by decide +kernel
theorem dX5_init_1 : decode cX5_init 1 = .ok (.invokespecial 3, 3) := by decide +kernel
theorem dX5_init_4 : decode cX5_init 4 = .ok (.aload_n 0, 1) := by decide +kernel
theorem dX5_init_5 : decode cX5_init 5 = .ok (.bipush 30, 2) := by decide +kernel
theorem dX5_init_7 : decode cX5_init 7 = .ok (.newarray .int, 2) := by decide +kernel
theorem dX5_init_9 : decode cX5_init 9 = .ok (.putfield 9, 3) := by decide +kernel
theorem dX5_init_12 : decode cX5_init 12 = .ok (.aload_n 0, 1) := by decide +kernel
theorem dX5_init_13 : decode cX5_init 13 = .ok (.iconst 3, 1) := by decide +kernel
theorem dX5_init_14 : decode cX5_init 14 = .ok (.newarray .int, 2) := by decide +kernel
theorem dX5_init_16 : decode cX5_init 16 = .ok (.putfield 15, 3) := by decide +kernel
theorem dX5_init_19 : decode cX5_init 19 = .ok (.return_, 1) := by decide +kernel
theorem dX5_empty_0 : decode cX5_empty 0 = .ok (.iconst 0, 1) := by decide +kernel
theorem dX5_empty_1 : decode cX5_empty 1 = .ok (.istore_n 1, 1) := by decide +kernel
theorem dX5_empty_2 : decode cX5_empty 2 = .ok (.iload_n 1, 1) := by decide +kernel
theorem dX5_empty_3 : decode cX5_empty 3 = .ok (.iconst 3, 1) := by decide +kernel
theorem dX5_empty_4 : decode cX5_empty 4 = .ok (.if_icmp .ge 16, 3) := by decide +kernel
theorem dX5_empty_7 : decode cX5_empty 7 = .ok (.aload_n 0, 1) := by decide +kernel
theorem dX5_empty_8 : decode cX5_empty 8 = .ok (.getfield 15, 3) := by decide +kernel
theorem dX5_empty_11 : decode cX5_empty 11 = .ok (.iload_n 1, 1) := by decide +kernel
theorem dX5_empty_12 : decode cX5_empty 12 = .ok (.iconst 0, 1) := by decide +kernel
theorem dX5_empty_13 : decode cX5_empty 13 = .ok (.iastore, 1) := by decide +kernel
theorem dX5_empty_14 : decode cX5_empty 14 = .ok (.iinc 1 1, 3) := by decide +kernel
theorem dX5_empty_17 : decode cX5_empty 17 = .ok (.goto (-15), 3) := by decide +kernel
theorem dX5_empty_20 : decode cX5_empty 20 = .ok (.return_, 1) := by decide +kernel
set_option maxRecDepth 20000 in
theorem ggX5_lengthOf_X5_isStaff : GoodIn wsX5_lengthOf wsX5_isStaff := goodIn_r _ [5] (by decide +kernel) (by decide +kernel)
set_option maxRecDepth 20000 in
theorem gX5_lengthOf_X5_isStaff : GoodIn wsX5_lengthOf (va_wsS RX5 18 yX5_isStaff wsX5_isStaff) := goodIn_app (goodIn_of _ (by decide +kernel)) ggX5_lengthOf_X5_isStaff
theorem dX5_lengthOf_0 : decode cX5_lengthOf 0 = .ok (.iload_n 1, 1) := by decide +kernel
theorem dX5_lengthOf_1 : decode cX5_lengthOf 1 = .ok (.invokestatic 18, 3) := by decide +kernel
theorem dX5_lengthOf_4 : decode cX5_lengthOf 4 = .ok (.ifCond .eq 12, 3) := by decide +kernel
theorem dX5_lengthOf_7 : decode cX5_lengthOf 7 = .ok (.aload_n 0, 1) := by decide +kernel
theorem dX5_lengthOf_8 : decode cX5_lengthOf 8 = .ok (.getfield 15, 3) := by decide +kernel
theorem dX5_lengthOf_11 : decode cX5_lengthOf 11 = .ok (.iload_n 1, 1) := by decide +kernel
theorem dX5_lengthOf_12 : decode cX5_lengthOf 12 = .ok (.iaload, 1) := by decide +kernel
theorem dX5_lengthOf_13 : decode cX5_lengthOf 13 = .ok (.goto 4, 3) := by decide +kernel
theorem dX5_lengthOf_16 : decode cX5_lengthOf 16 = .ok (.iconst 0, 1) := by decide +kernel
theorem dX5_lengthOf_17 : decode cX5_lengthOf 17 = .ok (.ireturn, 1) := by decide +kernel
set_option maxRecDepth 20000 in
theorem ggX5_signAt_X5_hasSign : GoodIn wsX5_signAt wsX5_hasSign := goodIn_r _ [6, 7, 8, 9, 5, 10, 11, 12] (by decide +kernel) (by decide +kernel)
set_option maxRecDepth 20000 in
theorem gX5_signAt_X5_hasSign : GoodIn wsX5_signAt (wsV RX5 22 RX5 yX5_hasSign wsX5_hasSign) := goodIn_app (goodIn_of _ (by decide +kernel)) ggX5_signAt_X5_hasSign
theorem dX5_signAt_0 : decode cX5_signAt 0 = .ok (.aload_n 0, 1) := by decide +kernel
theorem dX5_signAt_1 : decode cX5_signAt 1 = .ok (.iload_n 1, 1) := by decide +kernel
theorem dX5_signAt_2 : decode cX5_signAt 2 = .ok (.iload_n 2, 1) := by decide +kernel
theorem dX5_signAt_3 : decode cX5_signAt 3 = .ok (.invokevirtual 22, 3) := by decide +kernel
theorem dX5_signAt_6 : decode cX5_signAt 6 = .ok (.ifCond .eq 17, 3) := by decide +kernel
theorem dX5_signAt_9 : decode cX5_signAt 9 = .ok (.aload_n 0, 1) := by decide +kernel
theorem dX5_signAt_10 : decode cX5_signAt 10 = .ok (.getfield 9, 3) := by decide +kernel
theorem dX5_signAt_13 : decode cX5_signAt 13 = .ok (.iload_n 1, 1) := by decide +kernel
theorem dX5_signAt_14 : decode cX5_signAt 14 = .ok (.bipush 10, 2) := by decide +kernel
theorem dX5_signAt_16 : decode cX5_signAt 16 = .ok (.imul, 1) := by decide +kernel
theorem dX5_signAt_17 : decode cX5_signAt 17 = .ok (.iload_n 2, 1) := by decide +kernel
theorem dX5_signAt_18 : decode cX5_signAt 18 = .ok (.iadd, 1) := by decide +kernel
theorem dX5_signAt_19 : decode cX5_signAt 19 = .ok (.iaload, 1) := by decide +kernel
theorem dX5_signAt_20 : decode cX5_signAt 20 = .ok (.goto 5, 3) := by decide +kernel
theorem dX5_signAt_23 : decode cX5_signAt 23 = .ok (.bipush (-9), 2) := by decide +kernel
theorem dX5_signAt_25 : decode cX5_signAt 25 = .ok (.ireturn, 1) := by decide +kernel
set_option maxRecDepth 20000 in
theorem ggX5_append_X5_isStaff : GoodIn wsX5_append wsX5_isStaff := goodIn_r _ [5] (by decide +kernel) (by decide +kernel)
set_option maxRecDepth 20000 in
theorem gX5_append_X5_isStaff : GoodIn wsX5_append (va_wsS RX5 18 yX5_isStaff wsX5_isStaff) := goodIn_app (goodIn_of _ (by decide +kernel)) ggX5_append_X5_isStaff
set_option maxRecDepth 20000 in
theorem ggX5_append_X5_replace : GoodIn wsX5_append wsX5_replace := goodIn_r _ [9, 10, 11, 12, 13, 4, 14, 1, 2, 3, 5, 15, 16] (by decide +kernel) (by decide +kernel)
set_option maxRecDepth 20000 in
theorem gX5_append_X5_replace : GoodIn wsX5_append (wsV RX5 26 RX5 yX5_replace wsX5_replace) := goodIn_app (goodIn_of _ (by decide +kernel)) ggX5_append_X5_replace
theorem dX5_append_0 : decode cX5_append 0 = .ok (.iload_n 1, 1) := by decide +kernel
theorem dX5_append_1 : decode cX5_append 1 = .ok (.invokestatic 18, 3) := by decide +kernel
theorem dX5_append_4 : decode cX5_append 4 = .ok (.ifCond .eq 14, 3) := by decide +kernel
theorem dX5_append_7 : decode cX5_append 7 = .ok (.aload_n 0, 1) := by decide +kernel
theorem dX5_append_8 : decode cX5_append 8 = .ok (.getfield 15, 3) := by decide +kernel
theorem dX5_append_11 : decode cX5_append 11 = .ok (.iload_n 1, 1) := by decide +kernel
theorem dX5_append_12 : decode cX5_append 12 = .ok (.iaload, 1) := by decide +kernel
theorem dX5_append_13 : decode cX5_append 13 = .ok (.bipush 10, 2) := by decide +kernel
theorem dX5_append_15 : decode cX5_append 15 = .ok (.if_icmp .lt 4, 3) := by decide +kernel
theorem dX5_append_18 : decode cX5_append 18 = .ok (.return_, 1) := by decide +kernel
theorem dX5_append_19 : decode cX5_append 19 = .ok (.aload_n 0, 1) := by decide +kernel
theorem dX5_append_20 : decode cX5_append 20 = .ok (.getfield 15, 3) := by decide +kernel
theorem dX5_append_23 : decode cX5_append 23 = .ok (.iload_n 1, 1) := by decide +kernel
theorem dX5_append_24 : decode cX5_append 24 = .ok (.dup2, 1) := by decide +kernel
theorem dX5_append_25 : decode cX5_append 25 = .ok (.iaload, 1) := by decide +kernel
theorem dX5_append_26 : decode cX5_append 26 = .ok (.iconst 1, 1) := by decide +kernel
theorem dX5_append_27 : decode cX5_append 27 = .ok (.iadd, 1) := by decide +kernel
theorem dX5_append_28 : decode cX5_append 28 = .ok (.iastore, 1) := by decide +kernel
theorem dX5_append_29 : decode cX5_append 29 = .ok (.aload_n 0, 1) := by decide +kernel
theorem dX5_append_30 : decode cX5_append 30 = .ok (.iload_n 1, 1) := by decide +kernel
theorem dX5_append_31 : decode cX5_append 31 = .ok (.aload_n 0, 1) := by decide +kernel
theorem dX5_append_32 : decode cX5_append 32 = .ok (.getfield 15, 3) := by decide +kernel
theorem dX5_append_35 : decode cX5_append 35 = .ok (.iload_n 1, 1) := by decide +kernel
theorem dX5_append_36 : decode cX5_append 36 = .ok (.iaload, 1) := by decide +kernel
theorem dX5_append_37 : decode cX5_append 37 = .ok (.iconst 1, 1) := by decide +kernel
theorem dX5_append_38 : decode cX5_append 38 = .ok (.isub, 1) := by decide +kernel
theorem dX5_append_39 : decode cX5_append 39 = .ok (.iload_n 2, 1) := by decide +kernel
theorem dX5_append_40 : decode cX5_append 40 = .ok (.invokevirtual 26, 3) := by decide +kernel
theorem dX5_append_43 : decode cX5_append 43 = .ok (.return_, 1) := by decide +kernel
set_option maxRecDepth 20000 in
theorem ggX5_replace_X5_hasSign : GoodIn wsX5_replace wsX5_hasSign := goodIn_r _ [6, 7, 8, 9, 5, 10, 11, 12] (by decide +kernel) (by decide +kernel)
set_option maxRecDepth 20000 in
theorem gX5_replace_X5_hasSign : GoodIn wsX5_replace (wsV RX5 22 RX5 yX5_hasSign wsX5_hasSign) := goodIn_app (goodIn_of _ (by decide +kernel)) ggX5_replace_X5_hasSign
theorem dX5_replace_0 : decode cX5_replace 0 = .ok (.aload_n 0, 1) := by decide +kernel
theorem dX5_replace_1 : decode cX5_replace 1 = .ok (.iload_n 1, 1) := by decide +kernel
theorem dX5_replace_2 : decode cX5_replace 2 = .ok (.iload_n 2, 1) := by decide +kernel
theorem dX5_replace_3 : decode cX5_replace 3 = .ok (.invokevirtual 22, 3) := by decide +kernel
theorem dX5_replace_6 : decode cX5_replace 6 = .ok (.ifCond .eq 15, 3) := by decide +kernel
theorem dX5_replace_9 : decode cX5_replace 9 = .ok (.aload_n 0, 1) := by decide +kernel
theorem dX5_replace_10 : decode cX5_replace 10 = .ok (.getfield 9, 3) := by decide +kernel
theorem dX5_replace_13 : decode cX5_replace 13 = .ok (.iload_n 1, 1) := by decide +kernel
theorem dX5_replace_14 : decode cX5_replace 14 = .ok (.bipush 10, 2) := by decide +kernel
theorem dX5_replace_16 : decode cX5_replace 16 = .ok (.imul, 1) := by decide +kernel
theorem dX5_replace_17 : decode cX5_replace 17 = .ok (.iload_n 2, 1) := by decide +kernel
theorem dX5_replace_18 : decode cX5_replace 18 = .ok (.iadd, 1) := by decide +kernel
theorem dX5_replace_19 : decode cX5_replace 19 = .ok (.iload_n 3, 1) := by decide +kernel
theorem dX5_replace_20 : decode cX5_replace 20 = .ok (.iastore, 1) := by decide +kernel
theorem dX5_replace_21 : decode cX5_replace 21 = .ok (.return_, 1) := by decide +kernel
set_option maxRecDepth 20000 in
theorem ggX5_mirror_X5_lengthOf : GoodIn wsX5_mirror wsX5_lengthOf := goodIn_r _ [5, 6, 7, 8, 4, 9, 29, 30] (by decide +kernel) (by decide +kernel)
set_option maxRecDepth 20000 in
theorem gX5_mirror_X5_lengthOf : GoodIn wsX5_mirror (wsV RX5 30 RX5 yX5_lengthOf wsX5_lengthOf) := goodIn_app (goodIn_of _ (by decide +kernel)) ggX5_mirror_X5_lengthOf
set_option maxRecDepth 20000 in
theorem ggX5_mirror_X5_signAt : GoodIn wsX5_mirror wsX5_signAt := goodIn_r _ [13, 14, 15, 16, 17, 4, 18, 6, 7, 8, 9, 29, 30] (by decide +kernel) (by decide +kernel)
set_option maxRecDepth 20000 in
theorem gX5_mirror_X5_signAt : GoodIn wsX5_mirror (wsV RX5 34 RX5 yX5_signAt wsX5_signAt) := goodIn_app (goodIn_of _ (by decide +kernel)) ggX5_mirror_X5_signAt
set_option maxRecDepth 20000 in
theorem ggX5_mirror_X5_mirrored : GoodIn wsX5_mirror wsX5_mirrored := goodIn_r _ [21, 22, 23, 24] (by decide +kernel) (by decide +kernel)
set_option maxRecDepth 20000 in
theorem gX5_mirror_X5_mirrored : GoodIn wsX5_mirror (va_wsS RX5 38 yX5_mirrored wsX5_mirrored) := goodIn_app (goodIn_of _ (by decide +kernel)) ggX5_mirror_X5_mirrored
set_option maxRecDepth 20000 in
theorem ggX5_mirror_X5_replace : GoodIn wsX5_mirror wsX5_replace := goodIn_r _ [28, 14, 15, 16, 17, 4, 18, 6, 7, 8, 9, 29, 30] (by decide +kernel) (by decide +kernel)
set_option maxRecDepth 20000 in
theorem gX5_mirror_X5_replace : GoodIn wsX5_mirror (wsV RX5 26 RX5 yX5_replace wsX5_replace) := goodIn_app (goodIn_of _ (by decide +kernel)) ggX5_mirror_X5_replace
theorem dX5_mirror_0 : decode cX5_mirror 0 = .ok (.iconst 0, 1) := by decide +kernel
theorem dX5_mirror_1 : decode cX5_mirror 1 = .ok (.istore_n 2, 1) := by decide +kernel
theorem dX5_mirror_2 : decode cX5_mirror 2 = .ok (.iload_n 2, 1) := by decide +kernel
theorem dX5_mirror_3 : decode cX5_mirror 3 = .ok (.aload_n 0, 1) := by decide +kernel
theorem dX5_mirror_4 : decode cX5_mirror 4 = .ok (.iload_n 1, 1) := by decide +kernel
theorem dX5_mirror_5 : decode cX5_mirror 5 = .ok (.invokevirtual 30, 3) := by decide +kernel
theorem dX5_mirror_8 : decode cX5_mirror 8 = .ok (.if_icmp .ge 24, 3) := by decide +kernel
theorem dX5_mirror_11 : decode cX5_mirror 11 = .ok (.aload_n 0, 1) := by decide +kernel
theorem dX5_mirror_12 : decode cX5_mirror 12 = .ok (.iload_n 1, 1) := by decide +kernel
theorem dX5_mirror_13 : decode cX5_mirror 13 = .ok (.iload_n 2, 1) := by decide +kernel
theorem dX5_mirror_14 : decode cX5_mirror 14 = .ok (.aload_n 0, 1) := by decide +kernel
theorem dX5_mirror_15 : decode cX5_mirror 15 = .ok (.iload_n 1, 1) := by decide +kernel
theorem dX5_mirror_16 : decode cX5_mirror 16 = .ok (.iload_n 2, 1) := by decide +kernel
theorem dX5_mirror_17 : decode cX5_mirror 17 = .ok (.invokevirtual 34, 3) := by decide +kernel
theorem dX5_mirror_20 : decode cX5_mirror 20 = .ok (.invokestatic 38, 3) := by decide +kernel
theorem dX5_mirror_23 : decode cX5_mirror 23 = .ok (.invokevirtual 26, 3) := by decide +kernel
theorem dX5_mirror_26 : decode cX5_mirror 26 = .ok (.iinc 2 1, 3) := by decide +kernel
theorem dX5_mirror_29 : decode cX5_mirror 29 = .ok (.goto (-27), 3) := by decide +kernel
theorem dX5_mirror_32 : decode cX5_mirror 32 = .ok (.return_, 1) := by decide +kernel
set_option maxRecDepth 20000 in
theorem ggX5_makeCanon_X5_lengthOf : GoodIn wsX5_makeCanon wsX5_lengthOf := goodIn_r _ [9, 10, 11, 12, 8, 13, 31, 32] (by decide +kernel) (by decide +kernel)
set_option maxRecDepth 20000 in
theorem gX5_makeCanon_X5_lengthOf : GoodIn wsX5_makeCanon (wsV RX5 30 RX5 yX5_lengthOf wsX5_lengthOf) := goodIn_app (goodIn_of _ (by decide +kernel)) ggX5_makeCanon_X5_lengthOf
set_option maxRecDepth 20000 in
theorem ggX5_makeCanon_X5_setLength : GoodIn wsX5_makeCanon wsX5_setLength := goodIn_r _ [17, 10, 11, 12, 8, 13, 31, 32] (by decide +kernel) (by decide +kernel)
set_option maxRecDepth 20000 in
theorem gX5_makeCanon_X5_setLength : GoodIn wsX5_makeCanon (wsV RX5 46 RX5 yX5_setLength wsX5_setLength) := goodIn_app (goodIn_of _ (by decide +kernel)) ggX5_makeCanon_X5_setLength
set_option maxRecDepth 20000 in
theorem ggX5_makeCanon_X5_signAt : GoodIn wsX5_makeCanon wsX5_signAt := goodIn_r _ [21, 22, 23, 24, 25, 8, 26, 10, 11, 12, 13, 31, 32] (by decide +kernel) (by decide +kernel)
set_option maxRecDepth 20000 in
theorem gX5_makeCanon_X5_signAt : GoodIn wsX5_makeCanon (wsV RX5 34 RX5 yX5_signAt wsX5_signAt) := goodIn_app (goodIn_of _ (by decide +kernel)) ggX5_makeCanon_X5_signAt
set_option maxRecDepth 20000 in
theorem ggX5_makeCanon_X5_replace : GoodIn wsX5_makeCanon wsX5_replace := goodIn_r _ [30, 22, 23, 24, 25, 8, 26, 10, 11, 12, 13, 31, 32] (by decide +kernel) (by decide +kernel)
set_option maxRecDepth 20000 in
theorem gX5_makeCanon_X5_replace : GoodIn wsX5_makeCanon (wsV RX5 26 RX5 yX5_replace wsX5_replace) := goodIn_app (goodIn_of _ (by decide +kernel)) ggX5_makeCanon_X5_replace
theorem dX5_makeCanon_0 : decode cX5_makeCanon 0 = .ok (.aload_n 0, 1) := by decide +kernel
theorem dX5_makeCanon_1 : decode cX5_makeCanon 1 = .ok (.iload_n 1, 1) := by decide +kernel
theorem dX5_makeCanon_2 : decode cX5_makeCanon 2 = .ok (.bipush 10, 2) := by decide +kernel
theorem dX5_makeCanon_4 : decode cX5_makeCanon 4 = .ok (.iload_n 3, 1) := by decide +kernel
theorem dX5_makeCanon_5 : decode cX5_makeCanon 5 = .ok (.aload_n 0, 1) := by decide +kernel
theorem dX5_makeCanon_6 : decode cX5_makeCanon 6 = .ok (.iload_n 2, 1) := by decide +kernel
theorem dX5_makeCanon_7 : decode cX5_makeCanon 7 = .ok (.invokevirtual 30, 3) := by decide +kernel
theorem dX5_makeCanon_10 : decode cX5_makeCanon 10 = .ok (.iadd, 1) := by decide +kernel
theorem dX5_makeCanon_11 : decode cX5_makeCanon 11 = .ok (.invokestatic 41, 3) := by decide +kernel
theorem dX5_makeCanon_14 : decode cX5_makeCanon 14 = .ok (.invokevirtual 46, 3) := by decide +kernel
theorem dX5_makeCanon_17 : decode cX5_makeCanon 17 = .ok (.iconst 0, 1) := by decide +kernel
theorem dX5_makeCanon_18 : decode cX5_makeCanon 18 = .ok (.istore 4, 2) := by decide +kernel
theorem dX5_makeCanon_20 : decode cX5_makeCanon 20 = .ok (.iload 4, 2) := by decide +kernel
theorem dX5_makeCanon_22 : decode cX5_makeCanon 22 = .ok (.aload_n 0, 1) := by decide +kernel
theorem dX5_makeCanon_23 : decode cX5_makeCanon 23 = .ok (.iload_n 1, 1) := by decide +kernel
theorem dX5_makeCanon_24 : decode cX5_makeCanon 24 = .ok (.invokevirtual 30, 3) := by decide +kernel
theorem dX5_makeCanon_27 : decode cX5_makeCanon 27 = .ok (.if_icmp .ge 35, 3) := by decide +kernel
theorem dX5_makeCanon_30 : decode cX5_makeCanon 30 = .ok (.aload_n 0, 1) := by decide +kernel
theorem dX5_makeCanon_31 : decode cX5_makeCanon 31 = .ok (.iload_n 1, 1) := by decide +kernel
theorem dX5_makeCanon_32 : decode cX5_makeCanon 32 = .ok (.iload 4, 2) := by decide +kernel
theorem dX5_makeCanon_34 : decode cX5_makeCanon 34 = .ok (.iload 4, 2) := by decide +kernel
theorem dX5_makeCanon_36 : decode cX5_makeCanon 36 = .ok (.iload_n 3, 1) := by decide +kernel
theorem dX5_makeCanon_37 : decode cX5_makeCanon 37 = .ok (.if_icmp .ge 7, 3) := by decide +kernel
theorem dX5_makeCanon_40 : decode cX5_makeCanon 40 = .ok (.iconst 0, 1) := by decide +kernel
theorem dX5_makeCanon_41 : decode cX5_makeCanon 41 = .ok (.goto 12, 3) := by decide +kernel
theorem dX5_makeCanon_44 : decode cX5_makeCanon 44 = .ok (.aload_n 0, 1) := by decide +kernel
theorem dX5_makeCanon_45 : decode cX5_makeCanon 45 = .ok (.iload_n 2, 1) := by decide +kernel
theorem dX5_makeCanon_46 : decode cX5_makeCanon 46 = .ok (.iload 4, 2) := by decide +kernel
theorem dX5_makeCanon_48 : decode cX5_makeCanon 48 = .ok (.iload_n 3, 1) := by decide +kernel
theorem dX5_makeCanon_49 : decode cX5_makeCanon 49 = .ok (.isub, 1) := by decide +kernel
theorem dX5_makeCanon_50 : decode cX5_makeCanon 50 = .ok (.invokevirtual 34, 3) := by decide +kernel
theorem dX5_makeCanon_53 : decode cX5_makeCanon 53 = .ok (.invokevirtual 26, 3) := by decide +kernel
theorem dX5_makeCanon_56 : decode cX5_makeCanon 56 = .ok (.iinc 4 1, 3) := by decide +kernel
theorem dX5_makeCanon_59 : decode cX5_makeCanon 59 = .ok (.goto (-39), 3) := by decide +kernel
theorem dX5_makeCanon_62 : decode cX5_makeCanon 62 = .ok (.return_, 1) := by decide +kernel
set_option maxRecDepth 20000 in
theorem ggX5_setLength_X5_isStaff : GoodIn wsX5_setLength wsX5_isStaff := goodIn_r _ [5] (by decide +kernel) (by decide +kernel)
set_option maxRecDepth 20000 in
theorem gX5_setLength_X5_isStaff : GoodIn wsX5_setLength (va_wsS RX5 18 yX5_isStaff wsX5_isStaff) := goodIn_app (goodIn_of _ (by decide +kernel)) ggX5_setLength_X5_isStaff
theorem dX5_setLength_0 : decode cX5_setLength 0 = .ok (.iload_n 1, 1) := by decide +kernel
theorem dX5_setLength_1 : decode cX5_setLength 1 = .ok (.invokestatic 18, 3) := by decide +kernel
theorem dX5_setLength_4 : decode cX5_setLength 4 = .ok (.ifCond .eq 20, 3) := by decide +kernel
theorem dX5_setLength_7 : decode cX5_setLength 7 = .ok (.iload_n 2, 1) := by decide +kernel
theorem dX5_setLength_8 : decode cX5_setLength 8 = .ok (.ifCond .lt 16, 3) := by decide +kernel
theorem dX5_setLength_11 : decode cX5_setLength 11 = .ok (.iload_n 2, 1) := by decide +kernel
theorem dX5_setLength_12 : decode cX5_setLength 12 = .ok (.bipush 10, 2) := by decide +kernel
theorem dX5_setLength_14 : decode cX5_setLength 14 = .ok (.if_icmp .gt 10, 3) := by decide +kernel
theorem dX5_setLength_17 : decode cX5_setLength 17 = .ok (.aload_n 0, 1) := by decide +kernel
theorem dX5_setLength_18 : decode cX5_setLength 18 = .ok (.getfield 15, 3) := by decide +kernel
theorem dX5_setLength_21 : decode cX5_setLength 21 = .ok (.iload_n 1, 1) := by decide +kernel
theorem dX5_setLength_22 : decode cX5_setLength 22 = .ok (.iload_n 2, 1) := by decide +kernel
theorem dX5_setLength_23 : decode cX5_setLength 23 = .ok (.iastore, 1) := by decide +kernel
theorem dX5_setLength_24 : decode cX5_setLength 24 = .ok (.return_, 1) := by decide +kernel
set_option maxRecDepth 20000 in
theorem ggX5_copyFrom_X5_lengthOf : GoodIn wsX5_copyFrom wsX5_lengthOf := goodIn_r _ [5, 6, 7, 8, 4, 9, 27, 28] (by decide +kernel) (by decide +kernel)
set_option maxRecDepth 20000 in
theorem gX5_copyFrom_X5_lengthOf : GoodIn wsX5_copyFrom (wsV RX5 30 RX5 yX5_lengthOf wsX5_lengthOf) := goodIn_app (goodIn_of _ (by decide +kernel)) ggX5_copyFrom_X5_lengthOf
set_option maxRecDepth 20000 in
theorem ggX5_copyFrom_X5_setLength : GoodIn wsX5_copyFrom wsX5_setLength := goodIn_r _ [13, 6, 7, 8, 4, 9, 27, 28] (by decide +kernel) (by decide +kernel)
set_option maxRecDepth 20000 in
theorem gX5_copyFrom_X5_setLength : GoodIn wsX5_copyFrom (wsV RX5 46 RX5 yX5_setLength wsX5_setLength) := goodIn_app (goodIn_of _ (by decide +kernel)) ggX5_copyFrom_X5_setLength
set_option maxRecDepth 20000 in
theorem ggX5_copyFrom_X5_signAt : GoodIn wsX5_copyFrom wsX5_signAt := goodIn_r _ [17, 18, 19, 20, 21, 4, 22, 6, 7, 8, 9, 27, 28] (by decide +kernel) (by decide +kernel)
set_option maxRecDepth 20000 in
theorem gX5_copyFrom_X5_signAt : GoodIn wsX5_copyFrom (wsV RX5 34 RX5 yX5_signAt wsX5_signAt) := goodIn_app (goodIn_of _ (by decide +kernel)) ggX5_copyFrom_X5_signAt
set_option maxRecDepth 20000 in
theorem ggX5_copyFrom_X5_replace : GoodIn wsX5_copyFrom wsX5_replace := goodIn_r _ [26, 18, 19, 20, 21, 4, 22, 6, 7, 8, 9, 27, 28] (by decide +kernel) (by decide +kernel)
set_option maxRecDepth 20000 in
theorem gX5_copyFrom_X5_replace : GoodIn wsX5_copyFrom (wsV RX5 26 RX5 yX5_replace wsX5_replace) := goodIn_app (goodIn_of _ (by decide +kernel)) ggX5_copyFrom_X5_replace
theorem dX5_copyFrom_0 : decode cX5_copyFrom 0 = .ok (.iconst 0, 1) := by decide +kernel
theorem dX5_copyFrom_1 : decode cX5_copyFrom 1 = .ok (.istore_n 2, 1) := by decide +kernel
theorem dX5_copyFrom_2 : decode cX5_copyFrom 2 = .ok (.iload_n 2, 1) := by decide +kernel
theorem dX5_copyFrom_3 : decode cX5_copyFrom 3 = .ok (.iconst 3, 1) := by decide +kernel
theorem dX5_copyFrom_4 : decode cX5_copyFrom 4 = .ok (.if_icmp .ge 48, 3) := by decide +kernel
theorem dX5_copyFrom_7 : decode cX5_copyFrom 7 = .ok (.aload_n 0, 1) := by decide +kernel
theorem dX5_copyFrom_8 : decode cX5_copyFrom 8 = .ok (.iload_n 2, 1) := by decide +kernel
theorem dX5_copyFrom_9 : decode cX5_copyFrom 9 = .ok (.aload_n 1, 1) := by decide +kernel
theorem dX5_copyFrom_10 : decode cX5_copyFrom 10 = .ok (.iload_n 2, 1) := by decide +kernel
theorem dX5_copyFrom_11 : decode cX5_copyFrom 11 = .ok (.invokevirtual 30, 3) := by decide +kernel
theorem dX5_copyFrom_14 : decode cX5_copyFrom 14 = .ok (.invokevirtual 46, 3) := by decide +kernel
theorem dX5_copyFrom_17 : decode cX5_copyFrom 17 = .ok (.iconst 0, 1) := by decide +kernel
theorem dX5_copyFrom_18 : decode cX5_copyFrom 18 = .ok (.istore_n 3, 1) := by decide +kernel
theorem dX5_copyFrom_19 : decode cX5_copyFrom 19 = .ok (.iload_n 3, 1) := by decide +kernel
theorem dX5_copyFrom_20 : decode cX5_copyFrom 20 = .ok (.aload_n 0, 1) := by decide +kernel
theorem dX5_copyFrom_21 : decode cX5_copyFrom 21 = .ok (.iload_n 2, 1) := by decide +kernel
theorem dX5_copyFrom_22 : decode cX5_copyFrom 22 = .ok (.invokevirtual 30, 3) := by decide +kernel
theorem dX5_copyFrom_25 : decode cX5_copyFrom 25 = .ok (.if_icmp .ge 21, 3) := by decide +kernel
theorem dX5_copyFrom_28 : decode cX5_copyFrom 28 = .ok (.aload_n 0, 1) := by decide +kernel
theorem dX5_copyFrom_29 : decode cX5_copyFrom 29 = .ok (.iload_n 2, 1) := by decide +kernel
theorem dX5_copyFrom_30 : decode cX5_copyFrom 30 = .ok (.iload_n 3, 1) := by decide +kernel
theorem dX5_copyFrom_31 : decode cX5_copyFrom 31 = .ok (.aload_n 1, 1) := by decide +kernel
theorem dX5_copyFrom_32 : decode cX5_copyFrom 32 = .ok (.iload_n 2, 1) := by decide +kernel
theorem dX5_copyFrom_33 : decode cX5_copyFrom 33 = .ok (.iload_n 3, 1) := by decide +kernel
theorem dX5_copyFrom_34 : decode cX5_copyFrom 34 = .ok (.invokevirtual 34, 3) := by decide +kernel
theorem dX5_copyFrom_37 : decode cX5_copyFrom 37 = .ok (.invokevirtual 26, 3) := by decide +kernel
theorem dX5_copyFrom_40 : decode cX5_copyFrom 40 = .ok (.iinc 3 1, 3) := by decide +kernel
theorem dX5_copyFrom_43 : decode cX5_copyFrom 43 = .ok (.goto (-24), 3) := by decide +kernel
theorem dX5_copyFrom_46 : decode cX5_copyFrom 46 = .ok (.iinc 2 1, 3) := by decide +kernel
theorem dX5_copyFrom_49 : decode cX5_copyFrom 49 = .ok (.goto (-47), 3) := by decide +kernel
theorem dX5_copyFrom_52 : decode cX5_copyFrom 52 = .ok (.return_, 1) := by decide +kernel
set_option maxRecDepth 20000 in
theorem ggX5_hasSign_X5_isStaff : GoodIn wsX5_hasSign wsX5_isStaff := goodIn_r _ [5] (by decide +kernel) (by decide +kernel)
set_option maxRecDepth 20000 in
theorem gX5_hasSign_X5_isStaff : GoodIn wsX5_hasSign (va_wsS RX5 18 yX5_isStaff wsX5_isStaff) := goodIn_app (goodIn_of _ (by decide +kernel)) ggX5_hasSign_X5_isStaff
theorem dX5_hasSign_0 : decode cX5_hasSign 0 = .ok (.iload_n 1, 1) := by decide +kernel
theorem dX5_hasSign_1 : decode cX5_hasSign 1 = .ok (.invokestatic 18, 3) := by decide +kernel
theorem dX5_hasSign_4 : decode cX5_hasSign 4 = .ok (.ifCond .eq 21, 3) := by decide +kernel
theorem dX5_hasSign_7 : decode cX5_hasSign 7 = .ok (.iload_n 2, 1) := by decide +kernel
theorem dX5_hasSign_8 : decode cX5_hasSign 8 = .ok (.ifCond .lt 17, 3) := by decide +kernel
theorem dX5_hasSign_11 : decode cX5_hasSign 11 = .ok (.iload_n 2, 1) := by decide +kernel
theorem dX5_hasSign_12 : decode cX5_hasSign 12 = .ok (.aload_n 0, 1) := by decide +kernel
theorem dX5_hasSign_13 : decode cX5_hasSign 13 = .ok (.getfield 15, 3) := by decide +kernel
theorem dX5_hasSign_16 : decode cX5_hasSign 16 = .ok (.iload_n 1, 1) := by decide +kernel
theorem dX5_hasSign_17 : decode cX5_hasSign 17 = .ok (.iaload, 1) := by decide +kernel
theorem dX5_hasSign_18 : decode cX5_hasSign 18 = .ok (.if_icmp .ge 7, 3) := by decide +kernel
theorem dX5_hasSign_21 : decode cX5_hasSign 21 = .ok (.iconst 1, 1) := by decide +kernel
theorem dX5_hasSign_22 : decode cX5_hasSign 22 = .ok (.goto 4, 3) := by decide +kernel
theorem dX5_hasSign_25 : decode cX5_hasSign 25 = .ok (.iconst 0, 1) := by decide +kernel
theorem dX5_hasSign_26 : decode cX5_hasSign 26 = .ok (.ireturn, 1) := by decide +kernel
theorem dX5_isStaff_0 : decode cX5_isStaff 0 = .ok (.iload_n 0, 1) := by decide +kernel
theorem dX5_isStaff_1 : decode cX5_isStaff 1 = .ok (.ifCond .lt 12, 3) := by decide +kernel
theorem dX5_isStaff_4 : decode cX5_isStaff 4 = .ok (.iload_n 0, 1) := by decide +kernel
theorem dX5_isStaff_5 : decode cX5_isStaff 5 = .ok (.iconst 3, 1) := by decide +kernel
theorem dX5_isStaff_6 : decode cX5_isStaff 6 = .ok (.if_icmp .ge 7, 3) := by decide +kernel
theorem dX5_isStaff_9 : decode cX5_isStaff 9 = .ok (.iconst 1, 1) := by decide +kernel
theorem dX5_isStaff_10 : decode cX5_isStaff 10 = .ok (.goto 4, 3) := by decide +kernel
theorem dX5_isStaff_13 : decode cX5_isStaff 13 = .ok (.iconst 0, 1) := by decide +kernel
theorem dX5_isStaff_14 : decode cX5_isStaff 14 = .ok (.ireturn, 1) := by decide +kernel

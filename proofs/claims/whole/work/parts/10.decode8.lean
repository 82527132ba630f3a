theorem dX10_changes_20 : decode cX10_changes 20 = .ok (.ifCond .eq 13, 3) := by decide +kernel
theorem dX10_changes_23 : decode cX10_changes 23 = .ok (.iload_n 3, 1) := by decide +kernel
theorem dX10_changes_24 : decode cX10_changes 24 = .ok (.iconst 0, 1) := by decide +kernel
theorem dX10_changes_25 : decode cX10_changes 25 = .ok (.bipush 32, 2) := by decide +kernel
theorem dX10_changes_27 : decode cX10_changes 27 = .ok (.invokestatic 74, 3) := by decide +kernel
theorem dX10_changes_30 : decode cX10_changes 30 = .ok (.ifCond .ne 5, 3) := by decide +kernel
theorem dX10_changes_33 : decode cX10_changes 33 = .ok (.iconst (-1), 1) := by decide +kernel
theorem dX10_changes_34 : decode cX10_changes 34 = .ok (.ireturn, 1) := by decide +kernel
theorem dX10_changes_35 : decode cX10_changes 35 = .ok (.aload_n 0, 1) := by decide +kernel
theorem dX10_changes_36 : decode cX10_changes 36 = .ok (.iload_n 1, 1) := by decide +kernel
theorem dX10_changes_37 : decode cX10_changes 37 = .ok (.iload_n 2, 1) := by decide +kernel
theorem dX10_changes_38 : decode cX10_changes 38 = .ok (.invokevirtual 161, 3) := by decide +kernel
theorem dX10_changes_41 : decode cX10_changes 41 = .ok (.istore 4, 2) := by decide +kernel
theorem dX10_changes_43 : decode cX10_changes 43 = .ok (.iload 4, 2) := by decide +kernel
theorem dX10_changes_45 : decode cX10_changes 45 = .ok (.iload_n 3, 1) := by decide +kernel
theorem dX10_changes_46 : decode cX10_changes 46 = .ok (.if_icmp .ne 6, 3) := by decide +kernel
theorem dX10_changes_49 : decode cX10_changes 49 = .ok (.bipush (-2), 2) := by decide +kernel
theorem dX10_changes_51 : decode cX10_changes 51 = .ok (.ireturn, 1) := by decide +kernel
theorem dX10_changes_52 : decode cX10_changes 52 = .ok (.aload_n 0, 1) := by decide +kernel
theorem dX10_changes_53 : decode cX10_changes 53 = .ok (.invokevirtual 192, 3) := by decide +kernel
theorem dX10_changes_56 : decode cX10_changes 56 = .ok (.aload_n 0, 1) := by decide +kernel
theorem dX10_changes_57 : decode cX10_changes 57 = .ok (.getfield 19, 3) := by decide +kernel
theorem dX10_changes_60 : decode cX10_changes 60 = .ok (.bipush 11, 2) := by decide +kernel
theorem dX10_changes_62 : decode cX10_changes 62 = .ok (.iload_n 1, 1) := by decide +kernel
theorem dX10_changes_63 : decode cX10_changes 63 = .ok (.imul, 1) := by decide +kernel
theorem dX10_changes_64 : decode cX10_changes 64 = .ok (.iconst 1, 1) := by decide +kernel
theorem dX10_changes_65 : decode cX10_changes 65 = .ok (.iadd, 1) := by decide +kernel
theorem dX10_changes_66 : decode cX10_changes 66 = .ok (.iload_n 2, 1) := by decide +kernel
theorem dX10_changes_67 : decode cX10_changes 67 = .ok (.iadd, 1) := by decide +kernel
theorem dX10_changes_68 : decode cX10_changes 68 = .ok (.iload_n 3, 1) := by decide +kernel
theorem dX10_changes_69 : decode cX10_changes 69 = .ok (.iastore, 1) := by decide +kernel
theorem dX10_changes_70 : decode cX10_changes 70 = .ok (.iload 4, 2) := by decide +kernel
theorem dX10_changes_72 : decode cX10_changes 72 = .ok (.ireturn, 1) := by decide +kernel
set_option maxRecDepth 20000 in
theorem ggX10_adds_X10_isDancer : GoodIn wsX10_adds wsX10_isDancer := goodIn_r _ [6, 7, 8, 9, 5, 10, 22, 23, 24, 25, 26, 27, 28, 29, 30, 31, 32, 33, 34, 35, 36, 37, 38, 39, 40, 41, 42, 43, 44, 45, 46, 47, 48, 49, 50, 51, 52, 53, 54, 55, 56, 57, 58] (by decide +kernel) (by decide +kernel)
set_option maxRecDepth 20000 in
theorem gX10_adds_X10_isDancer : GoodIn wsX10_adds (wsV RX10 169 RX10 yX10_isDancer wsX10_isDancer) := goodIn_app (goodIn_of _ (by decide +kernel)) ggX10_adds_X10_isDancer
set_option maxRecDepth 20000 in
theorem ggX10_adds_X10_in : GoodIn wsX10_adds wsX10_in := goodIn_r _ [10] (by decide +kernel) (by decide +kernel)
set_option maxRecDepth 20000 in
theorem gX10_adds_X10_in : GoodIn wsX10_adds (va_wsS RX10 74 yX10_in wsX10_in) := goodIn_app (goodIn_of _ (by decide +kernel)) ggX10_adds_X10_in
set_option maxRecDepth 20000 in
theorem ggX10_adds_X10_sizeOf : GoodIn wsX10_adds wsX10_sizeOf := goodIn_r _ [14, 1, 22, 23, 24, 25, 26, 27, 28, 29, 30, 31, 32, 33, 34, 35, 36, 37, 38, 39, 40, 41, 42, 43, 44, 45, 46, 47, 48, 49, 50, 51, 52, 53, 54, 55, 56, 57, 58] (by decide +kernel) (by decide +kernel)
set_option maxRecDepth 20000 in
theorem gX10_adds_X10_sizeOf : GoodIn wsX10_adds (wsV RX10 158 RX10 yX10_sizeOf wsX10_sizeOf) := goodIn_app (goodIn_of _ (by decide +kernel)) ggX10_adds_X10_sizeOf
set_option maxRecDepth 20000 in
theorem ggX10_adds_X10_remember : GoodIn wsX10_adds wsX10_remember := goodIn_r _ [18, 19, 20, 1, 21, 22, 23, 24, 25, 26, 27, 28, 29, 30, 31, 32, 33, 34, 35, 36, 37, 38, 39, 40, 41, 42, 43, 44, 45, 46, 47, 48, 49, 50, 51, 52, 53, 54, 55, 56, 57, 58] (by decide +kernel) (by decide +kernel)
set_option maxRecDepth 20000 in
theorem gX10_adds_X10_remember : GoodIn wsX10_adds (wsV RX10 192 RX10 yX10_remember wsX10_remember) := goodIn_app (goodIn_of _ (by decide +kernel)) ggX10_adds_X10_remember
theorem dX10_adds_0 : decode cX10_adds 0 = .ok (.aload_n 0, 1) := by decide +kernel
theorem dX10_adds_1 : decode cX10_adds 1 = .ok (.iload_n 1, 1) := by decide +kernel
theorem dX10_adds_2 : decode cX10_adds 2 = .ok (.invokevirtual 169, 3) := by decide +kernel
theorem dX10_adds_5 : decode cX10_adds 5 = .ok (.ifCond .eq 13, 3) := by decide +kernel
theorem dX10_adds_8 : decode cX10_adds 8 = .ok (.iload_n 2, 1) := by decide +kernel
theorem dX10_adds_9 : decode cX10_adds 9 = .ok (.iconst 0, 1) := by decide +kernel
theorem dX10_adds_10 : decode cX10_adds 10 = .ok (.bipush 32, 2) := by decide +kernel
theorem dX10_adds_12 : decode cX10_adds 12 = .ok (.invokestatic 74, 3) := by decide +kernel
theorem dX10_adds_15 : decode cX10_adds 15 = .ok (.ifCond .ne 5, 3) := by decide +kernel
theorem dX10_adds_18 : decode cX10_adds 18 = .ok (.iconst (-1), 1) := by decide +kernel
theorem dX10_adds_19 : decode cX10_adds 19 = .ok (.ireturn, 1) := by decide +kernel
theorem dX10_adds_20 : decode cX10_adds 20 = .ok (.aload_n 0, 1) := by decide +kernel
theorem dX10_adds_21 : decode cX10_adds 21 = .ok (.iload_n 1, 1) := by decide +kernel
theorem dX10_adds_22 : decode cX10_adds 22 = .ok (.invokevirtual 158, 3) := by decide +kernel
theorem dX10_adds_25 : decode cX10_adds 25 = .ok (.bipush 10, 2) := by decide +kernel
theorem dX10_adds_27 : decode cX10_adds 27 = .ok (.if_icmp .ne 6, 3) := by decide +kernel
theorem dX10_adds_30 : decode cX10_adds 30 = .ok (.bipush (-3), 2) := by decide +kernel
theorem dX10_adds_32 : decode cX10_adds 32 = .ok (.ireturn, 1) := by decide +kernel
theorem dX10_adds_33 : decode cX10_adds 33 = .ok (.aload_n 0, 1) := by decide +kernel
theorem dX10_adds_34 : decode cX10_adds 34 = .ok (.invokevirtual 192, 3) := by decide +kernel
theorem dX10_adds_37 : decode cX10_adds 37 = .ok (.aload_n 0, 1) := by decide +kernel
theorem dX10_adds_38 : decode cX10_adds 38 = .ok (.getfield 19, 3) := by decide +kernel
theorem dX10_adds_41 : decode cX10_adds 41 = .ok (.bipush 11, 2) := by decide +kernel
theorem dX10_adds_43 : decode cX10_adds 43 = .ok (.iload_n 1, 1) := by decide +kernel
theorem dX10_adds_44 : decode cX10_adds 44 = .ok (.imul, 1) := by decide +kernel
theorem dX10_adds_45 : decode cX10_adds 45 = .ok (.dup2, 1) := by decide +kernel
theorem dX10_adds_46 : decode cX10_adds 46 = .ok (.iaload, 1) := by decide +kernel
theorem dX10_adds_47 : decode cX10_adds 47 = .ok (.iconst 1, 1) := by decide +kernel
theorem dX10_adds_48 : decode cX10_adds 48 = .ok (.iadd, 1) := by decide +kernel
theorem dX10_adds_49 : decode cX10_adds 49 = .ok (.iastore, 1) := by decide +kernel
theorem dX10_adds_50 : decode cX10_adds 50 = .ok (.aload_n 0, 1) := by decide +kernel
theorem dX10_adds_51 : decode cX10_adds 51 = .ok (.getfield 19, 3) := by decide +kernel
theorem dX10_adds_54 : decode cX10_adds 54 = .ok (.bipush 11, 2) := by decide +kernel
theorem dX10_adds_56 : decode cX10_adds 56 = .ok (.iload_n 1, 1) := by decide +kernel
theorem dX10_adds_57 : decode cX10_adds 57 = .ok (.imul, 1) := by decide +kernel
theorem dX10_adds_58 : decode cX10_adds 58 = .ok (.aload_n 0, 1) := by decide +kernel
theorem dX10_adds_59 : decode cX10_adds 59 = .ok (.iload_n 1, 1) := by decide +kernel
theorem dX10_adds_60 : decode cX10_adds 60 = .ok (.invokevirtual 158, 3) := by decide +kernel
theorem dX10_adds_63 : decode cX10_adds 63 = .ok (.iadd, 1) := by decide +kernel
theorem dX10_adds_64 : decode cX10_adds 64 = .ok (.iload_n 2, 1) := by decide +kernel
theorem dX10_adds_65 : decode cX10_adds 65 = .ok (.iastore, 1) := by decide +kernel
theorem dX10_adds_66 : decode cX10_adds 66 = .ok (.aload_n 0, 1) := by decide +kernel
theorem dX10_adds_67 : decode cX10_adds 67 = .ok (.iload_n 1, 1) := by decide +kernel
theorem dX10_adds_68 : decode cX10_adds 68 = .ok (.invokevirtual 158, 3) := by decide +kernel
theorem dX10_adds_71 : decode cX10_adds 71 = .ok (.ireturn, 1) := by decide +kernel
theorem dX10_undo_0 : decode cX10_undo 0 = .ok (.aload_n 0, 1) := by decide +kernel
theorem dX10_undo_1 : decode cX10_undo 1 = .ok (.getfield 130, 3) := by decide +kernel
theorem dX10_undo_4 : decode cX10_undo 4 = .ok (.ifCond .ne 6, 3) := by decide +kernel
theorem dX10_undo_7 : decode cX10_undo 7 = .ok (.bipush (-2), 2) := by decide +kernel
theorem dX10_undo_9 : decode cX10_undo 9 = .ok (.ireturn, 1) := by decide +kernel
theorem dX10_undo_10 : decode cX10_undo 10 = .ok (.aload_n 0, 1) := by decide +kernel
theorem dX10_undo_11 : decode cX10_undo 11 = .ok (.aload_n 0, 1) := by decide +kernel
theorem dX10_undo_12 : decode cX10_undo 12 = .ok (.getfield 189, 3) := by decide +kernel
theorem dX10_undo_15 : decode cX10_undo 15 = .ok (.bipush 10, 2) := by decide +kernel
theorem dX10_undo_17 : decode cX10_undo 17 = .ok (.iadd, 1) := by decide +kernel
theorem dX10_undo_18 : decode cX10_undo 18 = .ok (.iconst 1, 1) := by decide +kernel
theorem dX10_undo_19 : decode cX10_undo 19 = .ok (.isub, 1) := by decide +kernel
theorem dX10_undo_20 : decode cX10_undo 20 = .ok (.bipush 10, 2) := by decide +kernel
theorem dX10_undo_22 : decode cX10_undo 22 = .ok (.irem, 1) := by decide +kernel
theorem dX10_undo_23 : decode cX10_undo 23 = .ok (.putfield 189, 3) := by decide +kernel
theorem dX10_undo_26 : decode cX10_undo 26 = .ok (.aload_n 0, 1) := by decide +kernel
theorem dX10_undo_27 : decode cX10_undo 27 = .ok (.dup, 1) := by decide +kernel
theorem dX10_undo_28 : decode cX10_undo 28 = .ok (.getfield 130, 3) := by decide +kernel
theorem dX10_undo_31 : decode cX10_undo 31 = .ok (.iconst 1, 1) := by decide +kernel
theorem dX10_undo_32 : decode cX10_undo 32 = .ok (.isub, 1) := by decide +kernel
theorem dX10_undo_33 : decode cX10_undo 33 = .ok (.putfield 130, 3) := by decide +kernel
theorem dX10_undo_36 : decode cX10_undo 36 = .ok (.iconst 0, 1) := by decide +kernel
theorem dX10_undo_37 : decode cX10_undo 37 = .ok (.istore_n 1, 1) := by decide +kernel
theorem dX10_undo_38 : decode cX10_undo 38 = .ok (.iload_n 1, 1) := by decide +kernel
theorem dX10_undo_39 : decode cX10_undo 39 = .ok (.bipush 33, 2) := by decide +kernel
theorem dX10_undo_41 : decode cX10_undo 41 = .ok (.if_icmp .ge 29, 3) := by decide +kernel
theorem dX10_undo_44 : decode cX10_undo 44 = .ok (.aload_n 0, 1) := by decide +kernel
theorem dX10_undo_45 : decode cX10_undo 45 = .ok (.getfield 19, 3) := by decide +kernel
theorem dX10_undo_48 : decode cX10_undo 48 = .ok (.iload_n 1, 1) := by decide +kernel
theorem dX10_undo_49 : decode cX10_undo 49 = .ok (.aload_n 0, 1) := by decide +kernel
theorem dX10_undo_50 : decode cX10_undo 50 = .ok (.getfield 22, 3) := by decide +kernel
theorem dX10_undo_53 : decode cX10_undo 53 = .ok (.bipush 33, 2) := by decide +kernel
theorem dX10_undo_55 : decode cX10_undo 55 = .ok (.aload_n 0, 1) := by decide +kernel
theorem dX10_undo_56 : decode cX10_undo 56 = .ok (.getfield 189, 3) := by decide +kernel
theorem dX10_undo_59 : decode cX10_undo 59 = .ok (.imul, 1) := by decide +kernel
theorem dX10_undo_60 : decode cX10_undo 60 = .ok (.iload_n 1, 1) := by decide +kernel
theorem dX10_undo_61 : decode cX10_undo 61 = .ok (.iadd, 1) := by decide +kernel
theorem dX10_undo_62 : decode cX10_undo 62 = .ok (.iaload, 1) := by decide +kernel
theorem dX10_undo_63 : decode cX10_undo 63 = .ok (.iastore, 1) := by decide +kernel
theorem dX10_undo_64 : decode cX10_undo 64 = .ok (.iinc 1 1, 3) := by decide +kernel
theorem dX10_undo_67 : decode cX10_undo 67 = .ok (.goto (-29), 3) := by decide +kernel
theorem dX10_undo_70 : decode cX10_undo 70 = .ok (.aload_n 0, 1) := by decide +kernel
theorem dX10_undo_71 : decode cX10_undo 71 = .ok (.getfield 130, 3) := by decide +kernel
theorem dX10_undo_74 : decode cX10_undo 74 = .ok (.ireturn, 1) := by decide +kernel
set_option maxRecDepth 20000 in
theorem ggX10_isCrossing_X10_isAt : GoodIn wsX10_isCrossing wsX10_isAt := goodIn_r _ [9, 1, 2, 10, 11, 12, 13, 14, 15, 16, 17, 18, 19, 20, 21, 22, 23, 24, 25, 26, 27, 28, 29, 30, 31, 32, 33, 34, 35, 36, 37, 38, 39, 40, 41, 42, 43, 44, 45, 46] (by decide +kernel) (by decide +kernel)
set_option maxRecDepth 20000 in
theorem gX10_isCrossing_X10_isAt : GoodIn wsX10_isCrossing (wsV RX10 176 RX10 yX10_isAt wsX10_isAt) := goodIn_app (goodIn_of _ (by decide +kernel)) ggX10_isCrossing_X10_isAt
theorem dX10_isCrossing_0 : decode cX10_isCrossing 0 = .ok (.aload_n 0, 1) := by decide +kernel
theorem dX10_isCrossing_1 : decode cX10_isCrossing 1 = .ok (.getfield 53, 3) := by decide +kernel
theorem dX10_isCrossing_4 : decode cX10_isCrossing 4 = .ok (.iload_n 1, 1) := by decide +kernel
theorem dX10_isCrossing_5 : decode cX10_isCrossing 5 = .ok (.iaload, 1) := by decide +kernel
theorem dX10_isCrossing_6 : decode cX10_isCrossing 6 = .ok (.aload_n 0, 1) := by decide +kernel
theorem dX10_isCrossing_7 : decode cX10_isCrossing 7 = .ok (.getfield 53, 3) := by decide +kernel
theorem dX10_isCrossing_10 : decode cX10_isCrossing 10 = .ok (.iload_n 1, 1) := by decide +kernel
theorem dX10_isCrossing_11 : decode cX10_isCrossing 11 = .ok (.iconst 1, 1) := by decide +kernel
theorem dX10_isCrossing_12 : decode cX10_isCrossing 12 = .ok (.isub, 1) := by decide +kernel
theorem dX10_isCrossing_13 : decode cX10_isCrossing 13 = .ok (.iaload, 1) := by decide +kernel
theorem dX10_isCrossing_14 : decode cX10_isCrossing 14 = .ok (.isub, 1) := by decide +kernel
theorem dX10_isCrossing_15 : decode cX10_isCrossing 15 = .ok (.istore_n 2, 1) := by decide +kernel
theorem dX10_isCrossing_16 : decode cX10_isCrossing 16 = .ok (.aload_n 0, 1) := by decide +kernel
theorem dX10_isCrossing_17 : decode cX10_isCrossing 17 = .ok (.getfield 56, 3) := by decide +kernel
theorem dX10_isCrossing_20 : decode cX10_isCrossing 20 = .ok (.iload_n 1, 1) := by decide +kernel
theorem dX10_isCrossing_21 : decode cX10_isCrossing 21 = .ok (.iaload, 1) := by decide +kernel
theorem dX10_isCrossing_22 : decode cX10_isCrossing 22 = .ok (.aload_n 0, 1) := by decide +kernel
theorem dX10_isCrossing_23 : decode cX10_isCrossing 23 = .ok (.getfield 56, 3) := by decide +kernel
theorem dX10_isCrossing_26 : decode cX10_isCrossing 26 = .ok (.iload_n 1, 1) := by decide +kernel
theorem dX10_isCrossing_27 : decode cX10_isCrossing 27 = .ok (.iconst 1, 1) := by decide +kernel
theorem dX10_isCrossing_28 : decode cX10_isCrossing 28 = .ok (.isub, 1) := by decide +kernel
theorem dX10_isCrossing_29 : decode cX10_isCrossing 29 = .ok (.iaload, 1) := by decide +kernel
theorem dX10_isCrossing_30 : decode cX10_isCrossing 30 = .ok (.isub, 1) := by decide +kernel
theorem dX10_isCrossing_31 : decode cX10_isCrossing 31 = .ok (.istore_n 3, 1) := by decide +kernel
theorem dX10_isCrossing_32 : decode cX10_isCrossing 32 = .ok (.aload_n 0, 1) := by decide +kernel
theorem dX10_isCrossing_33 : decode cX10_isCrossing 33 = .ok (.getfield 65, 3) := by decide +kernel
theorem dX10_isCrossing_36 : decode cX10_isCrossing 36 = .ok (.iload_n 1, 1) := by decide +kernel
theorem dX10_isCrossing_37 : decode cX10_isCrossing 37 = .ok (.iaload, 1) := by decide +kernel
theorem dX10_isCrossing_38 : decode cX10_isCrossing 38 = .ok (.aload_n 0, 1) := by decide +kernel
theorem dX10_isCrossing_39 : decode cX10_isCrossing 39 = .ok (.getfield 65, 3) := by decide +kernel
theorem dX10_isCrossing_42 : decode cX10_isCrossing 42 = .ok (.iload_n 1, 1) := by decide +kernel
theorem dX10_isCrossing_43 : decode cX10_isCrossing 43 = .ok (.iconst 1, 1) := by decide +kernel
theorem dX10_isCrossing_44 : decode cX10_isCrossing 44 = .ok (.isub, 1) := by decide +kernel
theorem dX10_isCrossing_45 : decode cX10_isCrossing 45 = .ok (.iaload, 1) := by decide +kernel
theorem dX10_isCrossing_46 : decode cX10_isCrossing 46 = .ok (.isub, 1) := by decide +kernel
theorem dX10_isCrossing_47 : decode cX10_isCrossing 47 = .ok (.istore 4, 2) := by decide +kernel
theorem dX10_isCrossing_49 : decode cX10_isCrossing 49 = .ok (.aload_n 0, 1) := by decide +kernel
theorem dX10_isCrossing_50 : decode cX10_isCrossing 50 = .ok (.getfield 68, 3) := by decide +kernel
theorem dX10_isCrossing_53 : decode cX10_isCrossing 53 = .ok (.iload_n 1, 1) := by decide +kernel
theorem dX10_isCrossing_54 : decode cX10_isCrossing 54 = .ok (.iaload, 1) := by decide +kernel
theorem dX10_isCrossing_55 : decode cX10_isCrossing 55 = .ok (.aload_n 0, 1) := by decide +kernel
theorem dX10_isCrossing_56 : decode cX10_isCrossing 56 = .ok (.getfield 68, 3) := by decide +kernel
theorem dX10_isCrossing_59 : decode cX10_isCrossing 59 = .ok (.iload_n 1, 1) := by decide +kernel
theorem dX10_isCrossing_60 : decode cX10_isCrossing 60 = .ok (.iconst 1, 1) := by decide +kernel
theorem dX10_isCrossing_61 : decode cX10_isCrossing 61 = .ok (.isub, 1) := by decide +kernel
theorem dX10_isCrossing_62 : decode cX10_isCrossing 62 = .ok (.iaload, 1) := by decide +kernel
theorem dX10_isCrossing_63 : decode cX10_isCrossing 63 = .ok (.isub, 1) := by decide +kernel
theorem dX10_isCrossing_64 : decode cX10_isCrossing 64 = .ok (.istore 5, 2) := by decide +kernel
theorem dX10_isCrossing_66 : decode cX10_isCrossing 66 = .ok (.iload_n 2, 1) := by decide +kernel
theorem dX10_isCrossing_67 : decode cX10_isCrossing 67 = .ok (.ifCond .ne 7, 3) := by decide +kernel
theorem dX10_isCrossing_70 : decode cX10_isCrossing 70 = .ok (.iload_n 3, 1) := by decide +kernel
theorem dX10_isCrossing_71 : decode cX10_isCrossing 71 = .ok (.ifCond .eq 7, 3) := by decide +kernel
theorem dX10_isCrossing_74 : decode cX10_isCrossing 74 = .ok (.iconst 1, 1) := by decide +kernel
theorem dX10_isCrossing_75 : decode cX10_isCrossing 75 = .ok (.goto 4, 3) := by decide +kernel
theorem dX10_isCrossing_78 : decode cX10_isCrossing 78 = .ok (.iconst 0, 1) := by decide +kernel
theorem dX10_isCrossing_79 : decode cX10_isCrossing 79 = .ok (.istore 6, 2) := by decide +kernel
theorem dX10_isCrossing_81 : decode cX10_isCrossing 81 = .ok (.iload 6, 2) := by decide +kernel
theorem dX10_isCrossing_83 : decode cX10_isCrossing 83 = .ok (.ifCond .eq 51, 3) := by decide +kernel
theorem dX10_isCrossing_86 : decode cX10_isCrossing 86 = .ok (.aload_n 0, 1) := by decide +kernel
theorem dX10_isCrossing_87 : decode cX10_isCrossing 87 = .ok (.iload_n 1, 1) := by decide +kernel
theorem dX10_isCrossing_88 : decode cX10_isCrossing 88 = .ok (.aload_n 0, 1) := by decide +kernel
theorem dX10_isCrossing_89 : decode cX10_isCrossing 89 = .ok (.getfield 65, 3) := by decide +kernel
theorem dX10_isCrossing_92 : decode cX10_isCrossing 92 = .ok (.iload_n 1, 1) := by decide +kernel
theorem dX10_isCrossing_93 : decode cX10_isCrossing 93 = .ok (.iconst 1, 1) := by decide +kernel
theorem dX10_isCrossing_94 : decode cX10_isCrossing 94 = .ok (.isub, 1) := by decide +kernel
theorem dX10_isCrossing_95 : decode cX10_isCrossing 95 = .ok (.iaload, 1) := by decide +kernel
theorem dX10_isCrossing_96 : decode cX10_isCrossing 96 = .ok (.aload_n 0, 1) := by decide +kernel
theorem dX10_isCrossing_97 : decode cX10_isCrossing 97 = .ok (.getfield 68, 3) := by decide +kernel
theorem dX10_isCrossing_100 : decode cX10_isCrossing 100 = .ok (.iload_n 1, 1) := by decide +kernel
theorem dX10_isCrossing_101 : decode cX10_isCrossing 101 = .ok (.iconst 1, 1) := by decide +kernel
theorem dX10_isCrossing_102 : decode cX10_isCrossing 102 = .ok (.isub, 1) := by decide +kernel
theorem dX10_isCrossing_103 : decode cX10_isCrossing 103 = .ok (.iaload, 1) := by decide +kernel
theorem dX10_isCrossing_104 : decode cX10_isCrossing 104 = .ok (.invokevirtual 176, 3) := by decide +kernel
theorem dX10_isCrossing_107 : decode cX10_isCrossing 107 = .ok (.ifCond .eq 27, 3) := by decide +kernel
theorem dX10_isCrossing_110 : decode cX10_isCrossing 110 = .ok (.aload_n 0, 1) := by decide +kernel
theorem dX10_isCrossing_111 : decode cX10_isCrossing 111 = .ok (.iload_n 1, 1) := by decide +kernel
theorem dX10_isCrossing_112 : decode cX10_isCrossing 112 = .ok (.iconst 1, 1) := by decide +kernel
theorem dX10_isCrossing_113 : decode cX10_isCrossing 113 = .ok (.isub, 1) := by decide +kernel
theorem dX10_isCrossing_114 : decode cX10_isCrossing 114 = .ok (.aload_n 0, 1) := by decide +kernel
theorem dX10_isCrossing_115 : decode cX10_isCrossing 115 = .ok (.getfield 65, 3) := by decide +kernel
theorem dX10_isCrossing_118 : decode cX10_isCrossing 118 = .ok (.iload_n 1, 1) := by decide +kernel
theorem dX10_isCrossing_119 : decode cX10_isCrossing 119 = .ok (.iaload, 1) := by decide +kernel
theorem dX10_isCrossing_120 : decode cX10_isCrossing 120 = .ok (.aload_n 0, 1) := by decide +kernel
theorem dX10_isCrossing_121 : decode cX10_isCrossing 121 = .ok (.getfield 68, 3) := by decide +kernel
theorem dX10_isCrossing_124 : decode cX10_isCrossing 124 = .ok (.iload_n 1, 1) := by decide +kernel
theorem dX10_isCrossing_125 : decode cX10_isCrossing 125 = .ok (.iaload, 1) := by decide +kernel
theorem dX10_isCrossing_126 : decode cX10_isCrossing 126 = .ok (.invokevirtual 176, 3) := by decide +kernel
theorem dX10_isCrossing_129 : decode cX10_isCrossing 129 = .ok (.ifCond .eq 5, 3) := by decide +kernel
theorem dX10_isCrossing_132 : decode cX10_isCrossing 132 = .ok (.iconst 1, 1) := by decide +kernel
theorem dX10_isCrossing_133 : decode cX10_isCrossing 133 = .ok (.ireturn, 1) := by decide +kernel
theorem dX10_isCrossing_134 : decode cX10_isCrossing 134 = .ok (.iload_n 2, 1) := by decide +kernel
theorem dX10_isCrossing_135 : decode cX10_isCrossing 135 = .ok (.ifCond .eq 21, 3) := by decide +kernel
theorem dX10_isCrossing_138 : decode cX10_isCrossing 138 = .ok (.iload_n 3, 1) := by decide +kernel
theorem dX10_isCrossing_139 : decode cX10_isCrossing 139 = .ok (.ifCond .eq 17, 3) := by decide +kernel
theorem dX10_isCrossing_142 : decode cX10_isCrossing 142 = .ok (.iload 4, 2) := by decide +kernel
theorem dX10_isCrossing_144 : decode cX10_isCrossing 144 = .ok (.ifCond .eq 12, 3) := by decide +kernel
theorem dX10_isCrossing_147 : decode cX10_isCrossing 147 = .ok (.iload 5, 2) := by decide +kernel
theorem dX10_isCrossing_149 : decode cX10_isCrossing 149 = .ok (.ifCond .eq 7, 3) := by decide +kernel
theorem dX10_isCrossing_152 : decode cX10_isCrossing 152 = .ok (.iconst 1, 1) := by decide +kernel
theorem dX10_isCrossing_153 : decode cX10_isCrossing 153 = .ok (.goto 4, 3) := by decide +kernel
theorem dX10_isCrossing_156 : decode cX10_isCrossing 156 = .ok (.iconst 0, 1) := by decide +kernel
theorem dX10_isCrossing_157 : decode cX10_isCrossing 157 = .ok (.istore 7, 2) := by decide +kernel
theorem dX10_isCrossing_159 : decode cX10_isCrossing 159 = .ok (.aload_n 0, 1) := by decide +kernel
theorem dX10_isCrossing_160 : decode cX10_isCrossing 160 = .ok (.getfield 53, 3) := by decide +kernel
theorem dX10_isCrossing_163 : decode cX10_isCrossing 163 = .ok (.iload_n 1, 1) := by decide +kernel
theorem dX10_isCrossing_164 : decode cX10_isCrossing 164 = .ok (.iaload, 1) := by decide +kernel
theorem dX10_isCrossing_165 : decode cX10_isCrossing 165 = .ok (.aload_n 0, 1) := by decide +kernel
theorem dX10_isCrossing_166 : decode cX10_isCrossing 166 = .ok (.getfield 53, 3) := by decide +kernel
theorem dX10_isCrossing_169 : decode cX10_isCrossing 169 = .ok (.iload_n 1, 1) := by decide +kernel
theorem dX10_isCrossing_170 : decode cX10_isCrossing 170 = .ok (.iconst 1, 1) := by decide +kernel
theorem dX10_isCrossing_171 : decode cX10_isCrossing 171 = .ok (.isub, 1) := by decide +kernel
theorem dX10_isCrossing_172 : decode cX10_isCrossing 172 = .ok (.iaload, 1) := by decide +kernel
theorem dX10_isCrossing_173 : decode cX10_isCrossing 173 = .ok (.iadd, 1) := by decide +kernel
theorem dX10_isCrossing_174 : decode cX10_isCrossing 174 = .ok (.aload_n 0, 1) := by decide +kernel
theorem dX10_isCrossing_175 : decode cX10_isCrossing 175 = .ok (.getfield 65, 3) := by decide +kernel
theorem dX10_isCrossing_178 : decode cX10_isCrossing 178 = .ok (.iload_n 1, 1) := by decide +kernel
theorem dX10_isCrossing_179 : decode cX10_isCrossing 179 = .ok (.iaload, 1) := by decide +kernel
theorem dX10_isCrossing_180 : decode cX10_isCrossing 180 = .ok (.aload_n 0, 1) := by decide +kernel
theorem dX10_isCrossing_181 : decode cX10_isCrossing 181 = .ok (.getfield 65, 3) := by decide +kernel
theorem dX10_isCrossing_184 : decode cX10_isCrossing 184 = .ok (.iload_n 1, 1) := by decide +kernel
theorem dX10_isCrossing_185 : decode cX10_isCrossing 185 = .ok (.iconst 1, 1) := by decide +kernel
theorem dX10_isCrossing_186 : decode cX10_isCrossing 186 = .ok (.isub, 1) := by decide +kernel
theorem dX10_isCrossing_187 : decode cX10_isCrossing 187 = .ok (.iaload, 1) := by decide +kernel
theorem dX10_isCrossing_188 : decode cX10_isCrossing 188 = .ok (.iadd, 1) := by decide +kernel
theorem dX10_isCrossing_189 : decode cX10_isCrossing 189 = .ok (.if_icmp .ne 40, 3) := by decide +kernel
theorem dX10_isCrossing_192 : decode cX10_isCrossing 192 = .ok (.aload_n 0, 1) := by decide +kernel
theorem dX10_isCrossing_193 : decode cX10_isCrossing 193 = .ok (.getfield 56, 3) := by decide +kernel
theorem dX10_isCrossing_196 : decode cX10_isCrossing 196 = .ok (.iload_n 1, 1) := by decide +kernel
theorem dX10_isCrossing_197 : decode cX10_isCrossing 197 = .ok (.iaload, 1) := by decide +kernel
theorem dX10_isCrossing_198 : decode cX10_isCrossing 198 = .ok (.aload_n 0, 1) := by decide +kernel
theorem dX10_isCrossing_199 : decode cX10_isCrossing 199 = .ok (.getfield 56, 3) := by decide +kernel
theorem dX10_isCrossing_202 : decode cX10_isCrossing 202 = .ok (.iload_n 1, 1) := by decide +kernel
theorem dX10_isCrossing_203 : decode cX10_isCrossing 203 = .ok (.iconst 1, 1) := by decide +kernel
theorem dX10_isCrossing_204 : decode cX10_isCrossing 204 = .ok (.isub, 1) := by decide +kernel
theorem dX10_isCrossing_205 : decode cX10_isCrossing 205 = .ok (.iaload, 1) := by decide +kernel
theorem dX10_isCrossing_206 : decode cX10_isCrossing 206 = .ok (.iadd, 1) := by decide +kernel
theorem dX10_isCrossing_207 : decode cX10_isCrossing 207 = .ok (.aload_n 0, 1) := by decide +kernel
theorem dX10_isCrossing_208 : decode cX10_isCrossing 208 = .ok (.getfield 68, 3) := by decide +kernel
theorem dX10_isCrossing_211 : decode cX10_isCrossing 211 = .ok (.iload_n 1, 1) := by decide +kernel
theorem dX10_isCrossing_212 : decode cX10_isCrossing 212 = .ok (.iaload, 1) := by decide +kernel
theorem dX10_isCrossing_213 : decode cX10_isCrossing 213 = .ok (.aload_n 0, 1) := by decide +kernel
theorem dX10_isCrossing_214 : decode cX10_isCrossing 214 = .ok (.getfield 68, 3) := by decide +kernel
theorem dX10_isCrossing_217 : decode cX10_isCrossing 217 = .ok (.iload_n 1, 1) := by decide +kernel
theorem dX10_isCrossing_218 : decode cX10_isCrossing 218 = .ok (.iconst 1, 1) := by decide +kernel
theorem dX10_isCrossing_219 : decode cX10_isCrossing 219 = .ok (.isub, 1) := by decide +kernel
theorem dX10_isCrossing_220 : decode cX10_isCrossing 220 = .ok (.iaload, 1) := by decide +kernel
theorem dX10_isCrossing_221 : decode cX10_isCrossing 221 = .ok (.iadd, 1) := by decide +kernel
theorem dX10_isCrossing_222 : decode cX10_isCrossing 222 = .ok (.if_icmp .ne 7, 3) := by decide +kernel
theorem dX10_isCrossing_225 : decode cX10_isCrossing 225 = .ok (.iconst 1, 1) := by decide +kernel
theorem dX10_isCrossing_226 : decode cX10_isCrossing 226 = .ok (.goto 4, 3) := by decide +kernel
theorem dX10_isCrossing_229 : decode cX10_isCrossing 229 = .ok (.iconst 0, 1) := by decide +kernel
theorem dX10_isCrossing_230 : decode cX10_isCrossing 230 = .ok (.istore 8, 2) := by decide +kernel
theorem dX10_isCrossing_232 : decode cX10_isCrossing 232 = .ok (.iload 7, 2) := by decide +kernel
theorem dX10_isCrossing_234 : decode cX10_isCrossing 234 = .ok (.ifCond .eq 38, 3) := by decide +kernel
theorem dX10_isCrossing_237 : decode cX10_isCrossing 237 = .ok (.iload 8, 2) := by decide +kernel
theorem dX10_isCrossing_239 : decode cX10_isCrossing 239 = .ok (.ifCond .eq 33, 3) := by decide +kernel
theorem dX10_isCrossing_242 : decode cX10_isCrossing 242 = .ok (.aload_n 0, 1) := by decide +kernel
theorem dX10_isCrossing_243 : decode cX10_isCrossing 243 = .ok (.iload_n 1, 1) := by decide +kernel
theorem dX10_isCrossing_244 : decode cX10_isCrossing 244 = .ok (.iconst 1, 1) := by decide +kernel
theorem dX10_isCrossing_245 : decode cX10_isCrossing 245 = .ok (.isub, 1) := by decide +kernel
theorem dX10_isCrossing_246 : decode cX10_isCrossing 246 = .ok (.aload_n 0, 1) := by decide +kernel
theorem dX10_isCrossing_247 : decode cX10_isCrossing 247 = .ok (.getfield 65, 3) := by decide +kernel
theorem dX10_isCrossing_250 : decode cX10_isCrossing 250 = .ok (.iload_n 1, 1) := by decide +kernel
theorem dX10_isCrossing_251 : decode cX10_isCrossing 251 = .ok (.iconst 1, 1) := by decide +kernel
theorem dX10_isCrossing_252 : decode cX10_isCrossing 252 = .ok (.isub, 1) := by decide +kernel
theorem dX10_isCrossing_253 : decode cX10_isCrossing 253 = .ok (.iaload, 1) := by decide +kernel
theorem dX10_isCrossing_254 : decode cX10_isCrossing 254 = .ok (.aload_n 0, 1) := by decide +kernel
theorem dX10_isCrossing_255 : decode cX10_isCrossing 255 = .ok (.getfield 68, 3) := by decide +kernel
theorem dX10_isCrossing_258 : decode cX10_isCrossing 258 = .ok (.iload_n 1, 1) := by decide +kernel
theorem dX10_isCrossing_259 : decode cX10_isCrossing 259 = .ok (.iconst 1, 1) := by decide +kernel
theorem dX10_isCrossing_260 : decode cX10_isCrossing 260 = .ok (.isub, 1) := by decide +kernel
theorem dX10_isCrossing_261 : decode cX10_isCrossing 261 = .ok (.iaload, 1) := by decide +kernel
theorem dX10_isCrossing_262 : decode cX10_isCrossing 262 = .ok (.invokevirtual 176, 3) := by decide +kernel
theorem dX10_isCrossing_265 : decode cX10_isCrossing 265 = .ok (.ifCond .ne 7, 3) := by decide +kernel
theorem dX10_isCrossing_268 : decode cX10_isCrossing 268 = .ok (.iconst 1, 1) := by decide +kernel
theorem dX10_isCrossing_269 : decode cX10_isCrossing 269 = .ok (.goto 4, 3) := by decide +kernel
theorem dX10_isCrossing_272 : decode cX10_isCrossing 272 = .ok (.iconst 0, 1) := by decide +kernel
theorem dX10_isCrossing_273 : decode cX10_isCrossing 273 = .ok (.ireturn, 1) := by decide +kernel
set_option maxRecDepth 20000 in
theorem ggX10_meetOf_X10_dances : GoodIn wsX10_meetOf wsX10_dances := goodIn_r _ [9, 2, 10, 4, 11, 12, 13, 14, 15, 16, 17, 18, 19, 20, 21, 22, 8, 23, 24, 25, 26, 27, 28, 29, 30, 31, 32, 33, 34, 35, 36, 37, 38, 39, 40, 41, 50, 51, 52, 53, 54, 55, 56, 57, 58, 59, 60, 61, 62, 63, 64, 65, 66, 67, 68, 69, 70, 71, 72, 73, 74, 75, 76, 77, 78, 79, 80, 81, 82, 83, 84, 85, 86] (by decide +kernel) (by decide +kernel)
set_option maxRecDepth 20000 in
theorem gX10_meetOf_X10_dances : GoodIn wsX10_meetOf (wsV RX10 172 RX10 yX10_dances wsX10_dances) := goodIn_app (goodIn_of _ (by decide +kernel)) ggX10_meetOf_X10_dances
set_option maxRecDepth 20000 in
theorem ggX10_meetOf_X10_isAt : GoodIn wsX10_meetOf wsX10_isAt := goodIn_r _ [45, 2, 4, 50, 51, 52, 53, 54, 55, 56, 57, 58, 59, 60, 61, 62, 63, 64, 65, 66, 67, 68, 69, 70, 71, 72, 73, 74, 75, 76, 77, 78, 79, 80, 81, 82, 83, 84, 85, 86] (by decide +kernel) (by decide +kernel)
set_option maxRecDepth 20000 in
theorem gX10_meetOf_X10_isAt : GoodIn wsX10_meetOf (wsV RX10 176 RX10 yX10_isAt wsX10_isAt) := goodIn_app (goodIn_of _ (by decide +kernel)) ggX10_meetOf_X10_isAt
set_option maxRecDepth 20000 in
theorem ggX10_meetOf_X10_isCrossing : GoodIn wsX10_meetOf wsX10_isCrossing := goodIn_r _ [49, 2, 4, 1, 3, 42, 43, 44, 8, 45, 50, 51, 52, 53, 54, 55, 56, 57, 58, 59, 60, 61, 62, 63, 64, 65, 66, 67, 68, 69, 70, 71, 72, 73, 74, 75, 76, 77, 78, 79, 80, 81, 82, 83, 84, 85, 86] (by decide +kernel) (by decide +kernel)
set_option maxRecDepth 20000 in
theorem gX10_meetOf_X10_isCrossing : GoodIn wsX10_meetOf (wsV RX10 198 RX10 yX10_isCrossing wsX10_isCrossing) := goodIn_app (goodIn_of _ (by decide +kernel)) ggX10_meetOf_X10_isCrossing
theorem dX10_meetOf_0 : decode cX10_meetOf 0 = .ok (.aload_n 0, 1) := by decide +kernel
theorem dX10_meetOf_1 : decode cX10_meetOf 1 = .ok (.iload_n 2, 1) := by decide +kernel
theorem dX10_meetOf_2 : decode cX10_meetOf 2 = .ok (.bipush (-9), 2) := by decide +kernel
theorem dX10_meetOf_4 : decode cX10_meetOf 4 = .ok (.invokevirtual 172, 3) := by decide +kernel
theorem dX10_meetOf_7 : decode cX10_meetOf 7 = .ok (.iconst 0, 1) := by decide +kernel
theorem dX10_meetOf_8 : decode cX10_meetOf 8 = .ok (.istore 4, 2) := by decide +kernel
theorem dX10_meetOf_10 : decode cX10_meetOf 10 = .ok (.iload 4, 2) := by decide +kernel
theorem dX10_meetOf_12 : decode cX10_meetOf 12 = .ok (.bipush 10, 2) := by decide +kernel
theorem dX10_meetOf_14 : decode cX10_meetOf 14 = .ok (.if_icmp .gt 37, 3) := by decide +kernel
theorem dX10_meetOf_17 : decode cX10_meetOf 17 = .ok (.aload_n 0, 1) := by decide +kernel
theorem dX10_meetOf_18 : decode cX10_meetOf 18 = .ok (.getfield 65, 3) := by decide +kernel
theorem dX10_meetOf_21 : decode cX10_meetOf 21 = .ok (.iload 4, 2) := by decide +kernel
theorem dX10_meetOf_23 : decode cX10_meetOf 23 = .ok (.aload_n 0, 1) := by decide +kernel
theorem dX10_meetOf_24 : decode cX10_meetOf 24 = .ok (.getfield 53, 3) := by decide +kernel
theorem dX10_meetOf_27 : decode cX10_meetOf 27 = .ok (.iload 4, 2) := by decide +kernel
theorem dX10_meetOf_29 : decode cX10_meetOf 29 = .ok (.iaload, 1) := by decide +kernel
theorem dX10_meetOf_30 : decode cX10_meetOf 30 = .ok (.iastore, 1) := by decide +kernel
theorem dX10_meetOf_31 : decode cX10_meetOf 31 = .ok (.aload_n 0, 1) := by decide +kernel
theorem dX10_meetOf_32 : decode cX10_meetOf 32 = .ok (.getfield 68, 3) := by decide +kernel
theorem dX10_meetOf_35 : decode cX10_meetOf 35 = .ok (.iload 4, 2) := by decide +kernel
theorem dX10_meetOf_37 : decode cX10_meetOf 37 = .ok (.aload_n 0, 1) := by decide +kernel
theorem dX10_meetOf_38 : decode cX10_meetOf 38 = .ok (.getfield 56, 3) := by decide +kernel
theorem dX10_meetOf_41 : decode cX10_meetOf 41 = .ok (.iload 4, 2) := by decide +kernel
theorem dX10_meetOf_43 : decode cX10_meetOf 43 = .ok (.iaload, 1) := by decide +kernel
theorem dX10_meetOf_44 : decode cX10_meetOf 44 = .ok (.iastore, 1) := by decide +kernel
theorem dX10_meetOf_45 : decode cX10_meetOf 45 = .ok (.iinc 4 1, 3) := by decide +kernel
theorem dX10_meetOf_48 : decode cX10_meetOf 48 = .ok (.goto (-38), 3) := by decide +kernel
theorem dX10_meetOf_51 : decode cX10_meetOf 51 = .ok (.aload_n 0, 1) := by decide +kernel
theorem dX10_meetOf_52 : decode cX10_meetOf 52 = .ok (.iload_n 1, 1) := by decide +kernel
theorem dX10_meetOf_53 : decode cX10_meetOf 53 = .ok (.bipush (-9), 2) := by decide +kernel
theorem dX10_meetOf_55 : decode cX10_meetOf 55 = .ok (.invokevirtual 172, 3) := by decide +kernel
theorem dX10_meetOf_58 : decode cX10_meetOf 58 = .ok (.iload_n 3, 1) := by decide +kernel
theorem dX10_meetOf_59 : decode cX10_meetOf 59 = .ok (.istore 4, 2) := by decide +kernel
theorem dX10_meetOf_61 : decode cX10_meetOf 61 = .ok (.iload 4, 2) := by decide +kernel
theorem dX10_meetOf_63 : decode cX10_meetOf 63 = .ok (.bipush 10, 2) := by decide +kernel
theorem dX10_meetOf_65 : decode cX10_meetOf 65 = .ok (.if_icmp .gt 51, 3) := by decide +kernel
theorem dX10_meetOf_68 : decode cX10_meetOf 68 = .ok (.iload_n 3, 1) := by decide +kernel
theorem dX10_meetOf_69 : decode cX10_meetOf 69 = .ok (.ifCond .ne 29, 3) := by decide +kernel
theorem dX10_meetOf_72 : decode cX10_meetOf 72 = .ok (.aload_n 0, 1) := by decide +kernel
theorem dX10_meetOf_73 : decode cX10_meetOf 73 = .ok (.iload 4, 2) := by decide +kernel
theorem dX10_meetOf_75 : decode cX10_meetOf 75 = .ok (.aload_n 0, 1) := by decide +kernel
theorem dX10_meetOf_76 : decode cX10_meetOf 76 = .ok (.getfield 65, 3) := by decide +kernel
theorem dX10_meetOf_79 : decode cX10_meetOf 79 = .ok (.iload 4, 2) := by decide +kernel
theorem dX10_meetOf_81 : decode cX10_meetOf 81 = .ok (.iaload, 1) := by decide +kernel
theorem dX10_meetOf_82 : decode cX10_meetOf 82 = .ok (.aload_n 0, 1) := by decide +kernel
theorem dX10_meetOf_83 : decode cX10_meetOf 83 = .ok (.getfield 68, 3) := by decide +kernel
theorem dX10_meetOf_86 : decode cX10_meetOf 86 = .ok (.iload 4, 2) := by decide +kernel
theorem dX10_meetOf_88 : decode cX10_meetOf 88 = .ok (.iaload, 1) := by decide +kernel
theorem dX10_meetOf_89 : decode cX10_meetOf 89 = .ok (.invokevirtual 176, 3) := by decide +kernel
theorem dX10_meetOf_92 : decode cX10_meetOf 92 = .ok (.ifCond .eq 18, 3) := by decide +kernel
theorem dX10_meetOf_95 : decode cX10_meetOf 95 = .ok (.goto 12, 3) := by decide +kernel
theorem dX10_meetOf_98 : decode cX10_meetOf 98 = .ok (.aload_n 0, 1) := by decide +kernel
theorem dX10_meetOf_99 : decode cX10_meetOf 99 = .ok (.iload 4, 2) := by decide +kernel
theorem dX10_meetOf_101 : decode cX10_meetOf 101 = .ok (.invokevirtual 198, 3) := by decide +kernel
theorem dX10_meetOf_104 : decode cX10_meetOf 104 = .ok (.ifCond .eq 6, 3) := by decide +kernel
theorem dX10_meetOf_107 : decode cX10_meetOf 107 = .ok (.iload 4, 2) := by decide +kernel
theorem dX10_meetOf_109 : decode cX10_meetOf 109 = .ok (.ireturn, 1) := by decide +kernel
theorem dX10_meetOf_110 : decode cX10_meetOf 110 = .ok (.iinc 4 1, 3) := by decide +kernel
theorem dX10_meetOf_113 : decode cX10_meetOf 113 = .ok (.goto (-52), 3) := by decide +kernel
theorem dX10_meetOf_116 : decode cX10_meetOf 116 = .ok (.bipush (-9), 2) := by decide +kernel
theorem dX10_meetOf_118 : decode cX10_meetOf 118 = .ok (.ireturn, 1) := by decide +kernel
set_option maxRecDepth 20000 in
theorem ggX10_meet_X10_isDancer : GoodIn wsX10_meet wsX10_isDancer := goodIn_r _ [5, 6, 7, 8, 4, 9, 59, 60, 61, 62, 63, 64, 65, 66, 67, 68, 69, 70, 71, 72, 73, 74, 75, 76, 77, 78, 79, 80, 81, 82, 83, 84, 85, 86, 87, 88, 89, 90, 91, 92, 93, 94, 95] (by decide +kernel) (by decide +kernel)
set_option maxRecDepth 20000 in
theorem gX10_meet_X10_isDancer : GoodIn wsX10_meet (wsV RX10 169 RX10 yX10_isDancer wsX10_isDancer) := goodIn_app (goodIn_of _ (by decide +kernel)) ggX10_meet_X10_isDancer
set_option maxRecDepth 20000 in
theorem ggX10_meet_X10_in : GoodIn wsX10_meet wsX10_in := goodIn_r _ [9] (by decide +kernel) (by decide +kernel)
set_option maxRecDepth 20000 in
theorem gX10_meet_X10_in : GoodIn wsX10_meet (va_wsS RX10 74 yX10_in wsX10_in) := goodIn_app (goodIn_of _ (by decide +kernel)) ggX10_meet_X10_in
set_option maxRecDepth 20000 in
theorem ggX10_meet_X10_meetOf : GoodIn wsX10_meet wsX10_meetOf := goodIn_r _ [13, 14, 15, 16, 17, 18, 19, 20, 4, 21, 22, 23, 24, 25, 26, 27, 28, 29, 30, 31, 32, 33, 34, 35, 36, 37, 38, 39, 40, 41, 42, 43, 44, 45, 46, 47, 48, 49, 50, 7, 8, 9, 51, 52, 53, 54, 55, 56, 57, 58, 59, 60, 61, 62, 63, 64, 65, 66, 67, 68, 69, 70, 71, 72, 73, 74, 75, 76, 77, 78, 79, 80, 81, 82, 83, 84, 85, 86, 87, 88, 89, 90, 91, 92, 93, 94, 95] (by decide +kernel) (by decide +kernel)
set_option maxRecDepth 20000 in
theorem gX10_meet_X10_meetOf : GoodIn wsX10_meet (wsV RX10 201 RX10 yX10_meetOf wsX10_meetOf) := goodIn_app (goodIn_of _ (by decide +kernel)) ggX10_meet_X10_meetOf
theorem dX10_meet_0 : decode cX10_meet 0 = .ok (.aload_n 0, 1) := by decide +kernel
theorem dX10_meet_1 : decode cX10_meet 1 = .ok (.iload_n 1, 1) := by decide +kernel
theorem dX10_meet_2 : decode cX10_meet 2 = .ok (.invokevirtual 169, 3) := by decide +kernel
theorem dX10_meet_5 : decode cX10_meet 5 = .ok (.ifCond .eq 25, 3) := by decide +kernel
theorem dX10_meet_8 : decode cX10_meet 8 = .ok (.aload_n 0, 1) := by decide +kernel
theorem dX10_meet_9 : decode cX10_meet 9 = .ok (.iload_n 2, 1) := by decide +kernel
theorem dX10_meet_10 : decode cX10_meet 10 = .ok (.invokevirtual 169, 3) := by decide +kernel
theorem dX10_meet_13 : decode cX10_meet 13 = .ok (.ifCond .eq 17, 3) := by decide +kernel
theorem dX10_meet_16 : decode cX10_meet 16 = .ok (.iload_n 1, 1) := by decide +kernel
theorem dX10_meet_17 : decode cX10_meet 17 = .ok (.iload_n 2, 1) := by decide +kernel
theorem dX10_meet_18 : decode cX10_meet 18 = .ok (.if_icmp .eq 12, 3) := by decide +kernel
theorem dX10_meet_21 : decode cX10_meet 21 = .ok (.iload_n 3, 1) := by decide +kernel
theorem dX10_meet_22 : decode cX10_meet 22 = .ok (.iconst 0, 1) := by decide +kernel
theorem dX10_meet_23 : decode cX10_meet 23 = .ok (.iconst 1, 1) := by decide +kernel
theorem dX10_meet_24 : decode cX10_meet 24 = .ok (.invokestatic 74, 3) := by decide +kernel
theorem dX10_meet_27 : decode cX10_meet 27 = .ok (.ifCond .ne 5, 3) := by decide +kernel
theorem dX10_meet_30 : decode cX10_meet 30 = .ok (.iconst (-1), 1) := by decide +kernel
theorem dX10_meet_31 : decode cX10_meet 31 = .ok (.ireturn, 1) := by decide +kernel
theorem dX10_meet_32 : decode cX10_meet 32 = .ok (.aload_n 0, 1) := by decide +kernel
theorem dX10_meet_33 : decode cX10_meet 33 = .ok (.iload_n 1, 1) := by decide +kernel
theorem dX10_meet_34 : decode cX10_meet 34 = .ok (.iload_n 2, 1) := by decide +kernel
theorem dX10_meet_35 : decode cX10_meet 35 = .ok (.iload_n 3, 1) := by decide +kernel
theorem dX10_meet_36 : decode cX10_meet 36 = .ok (.invokevirtual 201, 3) := by decide +kernel
theorem dX10_meet_39 : decode cX10_meet 39 = .ok (.ireturn, 1) := by decide +kernel
theorem dX10_standing_0 : decode cX10_standing 0 = .ok (.iload_n 0, 1) := by decide +kernel
theorem dX10_standing_1 : decode cX10_standing 1 = .ok (.bipush 7, 2) := by decide +kernel
theorem dX10_standing_3 : decode cX10_standing 3 = .ok (.imul, 1) := by decide +kernel
theorem dX10_standing_4 : decode cX10_standing 4 = .ok (.iload_n 1, 1) := by decide +kernel
theorem dX10_standing_5 : decode cX10_standing 5 = .ok (.iadd, 1) := by decide +kernel
theorem dX10_standing_6 : decode cX10_standing 6 = .ok (.bipush 8, 2) := by decide +kernel
theorem dX10_standing_8 : decode cX10_standing 8 = .ok (.imul, 1) := by decide +kernel
theorem dX10_standing_9 : decode cX10_standing 9 = .ok (.iload_n 2, 1) := by decide +kernel
theorem dX10_standing_10 : decode cX10_standing 10 = .ok (.iadd, 1) := by decide +kernel
theorem dX10_standing_11 : decode cX10_standing 11 = .ok (.iconst 3, 1) := by decide +kernel
theorem dX10_standing_12 : decode cX10_standing 12 = .ok (.imul, 1) := by decide +kernel
theorem dX10_standing_13 : decode cX10_standing 13 = .ok (.iload_n 3, 1) := by decide +kernel
theorem dX10_standing_14 : decode cX10_standing 14 = .ok (.iadd, 1) := by decide +kernel
theorem dX10_standing_15 : decode cX10_standing 15 = .ok (.ireturn, 1) := by decide +kernel
theorem dX10_xOf_0 : decode cX10_xOf 0 = .ok (.iload_n 0, 1) := by decide +kernel
theorem dX10_xOf_1 : decode cX10_xOf 1 = .ok (.bipush 24, 2) := by decide +kernel
theorem dX10_xOf_3 : decode cX10_xOf 3 = .ok (.idiv, 1) := by decide +kernel
theorem dX10_xOf_4 : decode cX10_xOf 4 = .ok (.bipush 7, 2) := by decide +kernel
theorem dX10_xOf_6 : decode cX10_xOf 6 = .ok (.idiv, 1) := by decide +kernel
theorem dX10_xOf_7 : decode cX10_xOf 7 = .ok (.ireturn, 1) := by decide +kernel
theorem dX10_yOf_0 : decode cX10_yOf 0 = .ok (.iload_n 0, 1) := by decide +kernel
theorem dX10_yOf_1 : decode cX10_yOf 1 = .ok (.bipush 24, 2) := by decide +kernel
theorem dX10_yOf_3 : decode cX10_yOf 3 = .ok (.idiv, 1) := by decide +kernel
theorem dX10_yOf_4 : decode cX10_yOf 4 = .ok (.bipush 7, 2) := by decide +kernel
theorem dX10_yOf_6 : decode cX10_yOf 6 = .ok (.irem, 1) := by decide +kernel
theorem dX10_yOf_7 : decode cX10_yOf 7 = .ok (.ireturn, 1) := by decide +kernel
set_option maxRecDepth 20000 in
theorem ggX10_leadsFrom_X10_xOf : GoodIn wsX10_leadsFrom wsX10_xOf := goodIn_r _ [4] (by decide +kernel) (by decide +kernel)
set_option maxRecDepth 20000 in
theorem gX10_leadsFrom_X10_xOf : GoodIn wsX10_leadsFrom (va_wsS RX10 205 yX10_xOf wsX10_xOf) := goodIn_app (goodIn_of _ (by decide +kernel)) ggX10_leadsFrom_X10_xOf
set_option maxRecDepth 20000 in
theorem ggX10_leadsFrom_X10_yOf : GoodIn wsX10_leadsFrom wsX10_yOf := goodIn_r _ [7] (by decide +kernel) (by decide +kernel)
set_option maxRecDepth 20000 in
theorem gX10_leadsFrom_X10_yOf : GoodIn wsX10_leadsFrom (va_wsS RX10 208 yX10_yOf wsX10_yOf) := goodIn_app (goodIn_of _ (by decide +kernel)) ggX10_leadsFrom_X10_yOf
set_option maxRecDepth 20000 in
theorem ggX10_leadsFrom_X10_leads : GoodIn wsX10_leadsFrom wsX10_leads := goodIn_r _ [11, 12, 13, 14, 15, 16, 17, 3, 18, 19, 20, 21, 22, 23, 24, 25, 26, 27, 28, 29, 30, 31, 32, 33, 34, 35, 36, 37, 38, 39, 40, 41, 42, 43, 44, 45, 46, 47, 48, 49, 50, 51, 52, 53, 54, 55, 56, 57, 58, 59, 60, 61] (by decide +kernel) (by decide +kernel)
set_option maxRecDepth 20000 in
theorem gX10_leadsFrom_X10_leads : GoodIn wsX10_leadsFrom (wsV RX10 165 RX10 yX10_leads wsX10_leads) := goodIn_app (goodIn_of _ (by decide +kernel)) ggX10_leadsFrom_X10_leads
theorem dX10_leadsFrom_0 : decode cX10_leadsFrom 0 = .ok (.aload_n 0, 1) := by decide +kernel
theorem dX10_leadsFrom_1 : decode cX10_leadsFrom 1 = .ok (.iload_n 1, 1) := by decide +kernel
theorem dX10_leadsFrom_2 : decode cX10_leadsFrom 2 = .ok (.invokestatic 205, 3) := by decide +kernel
theorem dX10_leadsFrom_5 : decode cX10_leadsFrom 5 = .ok (.iload_n 1, 1) := by decide +kernel
theorem dX10_leadsFrom_6 : decode cX10_leadsFrom 6 = .ok (.invokestatic 208, 3) := by decide +kernel
theorem dX10_leadsFrom_9 : decode cX10_leadsFrom 9 = .ok (.iload_n 1, 1) := by decide +kernel
theorem dX10_leadsFrom_10 : decode cX10_leadsFrom 10 = .ok (.iconst 3, 1) := by decide +kernel
theorem dX10_leadsFrom_11 : decode cX10_leadsFrom 11 = .ok (.idiv, 1) := by decide +kernel
theorem dX10_leadsFrom_12 : decode cX10_leadsFrom 12 = .ok (.bipush 8, 2) := by decide +kernel
theorem dX10_leadsFrom_14 : decode cX10_leadsFrom 14 = .ok (.irem, 1) := by decide +kernel
theorem dX10_leadsFrom_15 : decode cX10_leadsFrom 15 = .ok (.iload_n 1, 1) := by decide +kernel
theorem dX10_leadsFrom_16 : decode cX10_leadsFrom 16 = .ok (.iconst 3, 1) := by decide +kernel
theorem dX10_leadsFrom_17 : decode cX10_leadsFrom 17 = .ok (.irem, 1) := by decide +kernel
theorem dX10_leadsFrom_18 : decode cX10_leadsFrom 18 = .ok (.iload_n 2, 1) := by decide +kernel
theorem dX10_leadsFrom_19 : decode cX10_leadsFrom 19 = .ok (.invokevirtual 165, 3) := by decide +kernel
theorem dX10_leadsFrom_22 : decode cX10_leadsFrom 22 = .ok (.ireturn, 1) := by decide +kernel
set_option maxRecDepth 20000 in
theorem ggX10_layFar_X10_standing : GoodIn wsX10_layFar wsX10_standing := goodIn_r _ [9] (by decide +kernel) (by decide +kernel)
set_option maxRecDepth 20000 in
theorem gX10_layFar_X10_standing : GoodIn wsX10_layFar (va_wsS RX10 211 yX10_standing wsX10_standing) := goodIn_app (goodIn_of _ (by decide +kernel)) ggX10_layFar_X10_standing
set_option maxRecDepth 20000 in
theorem ggX10_layFar_X10_leadsFrom : GoodIn wsX10_layFar wsX10_leadsFrom := goodIn_r _ [13, 14, 15, 8, 16, 17, 18, 19, 20, 21, 22, 23, 2, 3, 4, 5, 24, 25, 26, 27, 28, 29, 30, 31, 32, 33, 34, 35, 36, 37, 38, 39, 40, 41, 42, 43, 44, 45, 46, 47, 48, 49, 50, 51, 52, 53, 54, 55, 56, 57, 58, 59, 60, 61, 62, 63, 64, 65, 66, 67, 68, 69] (by decide +kernel) (by decide +kernel)
set_option maxRecDepth 20000 in
theorem gX10_layFar_X10_leadsFrom : GoodIn wsX10_layFar (wsV RX10 215 RX10 yX10_leadsFrom wsX10_leadsFrom) := goodIn_app (goodIn_of _ (by decide +kernel)) ggX10_layFar_X10_leadsFrom
theorem dX10_layFar_0 : decode cX10_layFar 0 = .ok (.iconst 0, 1) := by decide +kernel
theorem dX10_layFar_1 : decode cX10_layFar 1 = .ok (.istore 4, 2) := by decide +kernel
theorem dX10_layFar_3 : decode cX10_layFar 3 = .ok (.iload 4, 2) := by decide +kernel
theorem dX10_layFar_5 : decode cX10_layFar 5 = .ok (.sipush 1176, 3) := by decide +kernel
theorem dX10_layFar_8 : decode cX10_layFar 8 = .ok (.if_icmp .ge 39, 3) := by decide +kernel
theorem dX10_layFar_11 : decode cX10_layFar 11 = .ok (.aload_n 0, 1) := by decide +kernel
theorem dX10_layFar_12 : decode cX10_layFar 12 = .ok (.getfield 71, 3) := by decide +kernel
theorem dX10_layFar_15 : decode cX10_layFar 15 = .ok (.iload 4, 2) := by decide +kernel
theorem dX10_layFar_17 : decode cX10_layFar 17 = .ok (.iload 4, 2) := by decide +kernel
theorem dX10_layFar_19 : decode cX10_layFar 19 = .ok (.iconst 3, 1) := by decide +kernel
theorem dX10_layFar_20 : decode cX10_layFar 20 = .ok (.idiv, 1) := by decide +kernel
theorem dX10_layFar_21 : decode cX10_layFar 21 = .ok (.iload_n 1, 1) := by decide +kernel
theorem dX10_layFar_22 : decode cX10_layFar 22 = .ok (.iload_n 2, 1) := by decide +kernel
theorem dX10_layFar_23 : decode cX10_layFar 23 = .ok (.iload_n 3, 1) := by decide +kernel
theorem dX10_layFar_24 : decode cX10_layFar 24 = .ok (.iconst 0, 1) := by decide +kernel
theorem dX10_layFar_25 : decode cX10_layFar 25 = .ok (.invokestatic 211, 3) := by decide +kernel
theorem dX10_layFar_28 : decode cX10_layFar 28 = .ok (.iconst 3, 1) := by decide +kernel
theorem dX10_layFar_29 : decode cX10_layFar 29 = .ok (.idiv, 1) := by decide +kernel
theorem dX10_layFar_30 : decode cX10_layFar 30 = .ok (.if_icmp .ne 7, 3) := by decide +kernel
theorem dX10_layFar_33 : decode cX10_layFar 33 = .ok (.iconst 0, 1) := by decide +kernel
theorem dX10_layFar_34 : decode cX10_layFar 34 = .ok (.goto 6, 3) := by decide +kernel
theorem dX10_layFar_37 : decode cX10_layFar 37 = .ok (.sipush 1176, 3) := by decide +kernel
theorem dX10_layFar_40 : decode cX10_layFar 40 = .ok (.iastore, 1) := by decide +kernel
theorem dX10_layFar_41 : decode cX10_layFar 41 = .ok (.iinc 4 1, 3) := by decide +kernel
theorem dX10_layFar_44 : decode cX10_layFar 44 = .ok (.goto (-41), 3) := by decide +kernel
theorem dX10_layFar_47 : decode cX10_layFar 47 = .ok (.iconst 1, 1) := by decide +kernel
theorem dX10_layFar_48 : decode cX10_layFar 48 = .ok (.istore 4, 2) := by decide +kernel
theorem dX10_layFar_50 : decode cX10_layFar 50 = .ok (.iload 4, 2) := by decide +kernel
theorem dX10_layFar_52 : decode cX10_layFar 52 = .ok (.ifCond .eq 136, 3) := by decide +kernel
theorem dX10_layFar_55 : decode cX10_layFar 55 = .ok (.iconst 0, 1) := by decide +kernel
theorem dX10_layFar_56 : decode cX10_layFar 56 = .ok (.istore 4, 2) := by decide +kernel
theorem dX10_layFar_58 : decode cX10_layFar 58 = .ok (.iconst 0, 1) := by decide +kernel
theorem dX10_layFar_59 : decode cX10_layFar 59 = .ok (.istore 5, 2) := by decide +kernel
theorem dX10_layFar_61 : decode cX10_layFar 61 = .ok (.iload 5, 2) := by decide +kernel
theorem dX10_layFar_63 : decode cX10_layFar 63 = .ok (.sipush 1176, 3) := by decide +kernel
theorem dX10_layFar_66 : decode cX10_layFar 66 = .ok (.if_icmp .ge 119, 3) := by decide +kernel
theorem dX10_layFar_69 : decode cX10_layFar 69 = .ok (.iconst 1, 1) := by decide +kernel
theorem dX10_layFar_70 : decode cX10_layFar 70 = .ok (.istore 6, 2) := by decide +kernel
theorem dX10_layFar_72 : decode cX10_layFar 72 = .ok (.iload 6, 2) := by decide +kernel
theorem dX10_layFar_74 : decode cX10_layFar 74 = .ok (.bipush 33, 2) := by decide +kernel
theorem dX10_layFar_76 : decode cX10_layFar 76 = .ok (.if_icmp .ge 103, 3) := by decide +kernel
theorem dX10_layFar_79 : decode cX10_layFar 79 = .ok (.aload_n 0, 1) := by decide +kernel
theorem dX10_layFar_80 : decode cX10_layFar 80 = .ok (.iload 5, 2) := by decide +kernel
theorem dX10_layFar_82 : decode cX10_layFar 82 = .ok (.iload 6, 2) := by decide +kernel
theorem dX10_layFar_84 : decode cX10_layFar 84 = .ok (.invokevirtual 215, 3) := by decide +kernel
theorem dX10_layFar_87 : decode cX10_layFar 87 = .ok (.ifCond .eq 86, 3) := by decide +kernel
theorem dX10_layFar_90 : decode cX10_layFar 90 = .ok (.aload_n 0, 1) := by decide +kernel
theorem dX10_layFar_91 : decode cX10_layFar 91 = .ok (.getfield 71, 3) := by decide +kernel
theorem dX10_layFar_94 : decode cX10_layFar 94 = .ok (.aload_n 0, 1) := by decide +kernel
theorem dX10_layFar_95 : decode cX10_layFar 95 = .ok (.getfield 140, 3) := by decide +kernel
theorem dX10_layFar_98 : decode cX10_layFar 98 = .ok (.aload_n 0, 1) := by decide +kernel
theorem dX10_layFar_99 : decode cX10_layFar 99 = .ok (.getfield 143, 3) := by decide +kernel
theorem dX10_layFar_102 : decode cX10_layFar 102 = .ok (.aload_n 0, 1) := by decide +kernel
theorem dX10_layFar_103 : decode cX10_layFar 103 = .ok (.getfield 146, 3) := by decide +kernel
theorem dX10_layFar_106 : decode cX10_layFar 106 = .ok (.aload_n 0, 1) := by decide +kernel
theorem dX10_layFar_107 : decode cX10_layFar 107 = .ok (.getfield 149, 3) := by decide +kernel
theorem dX10_layFar_110 : decode cX10_layFar 110 = .ok (.invokestatic 211, 3) := by decide +kernel
theorem dX10_layFar_113 : decode cX10_layFar 113 = .ok (.iaload, 1) := by decide +kernel
theorem dX10_layFar_114 : decode cX10_layFar 114 = .ok (.iconst 1, 1) := by decide +kernel
theorem dX10_layFar_115 : decode cX10_layFar 115 = .ok (.iadd, 1) := by decide +kernel
theorem dX10_layFar_116 : decode cX10_layFar 116 = .ok (.istore 7, 2) := by decide +kernel
theorem dX10_layFar_118 : decode cX10_layFar 118 = .ok (.iload 4, 2) := by decide +kernel
theorem dX10_layFar_120 : decode cX10_layFar 120 = .ok (.ifCond .ne 15, 3) := by decide +kernel
theorem dX10_layFar_123 : decode cX10_layFar 123 = .ok (.iload 7, 2) := by decide +kernel
theorem dX10_layFar_125 : decode cX10_layFar 125 = .ok (.aload_n 0, 1) := by decide +kernel
theorem dX10_layFar_126 : decode cX10_layFar 126 = .ok (.getfield 71, 3) := by decide +kernel
theorem dX10_layFar_129 : decode cX10_layFar 129 = .ok (.iload 5, 2) := by decide +kernel
theorem dX10_layFar_131 : decode cX10_layFar 131 = .ok (.iaload, 1) := by decide +kernel
theorem dX10_layFar_132 : decode cX10_layFar 132 = .ok (.if_icmp .ge 7, 3) := by decide +kernel
theorem dX10_layFar_135 : decode cX10_layFar 135 = .ok (.iconst 1, 1) := by decide +kernel
theorem dX10_layFar_136 : decode cX10_layFar 136 = .ok (.goto 4, 3) := by decide +kernel
theorem dX10_layFar_139 : decode cX10_layFar 139 = .ok (.iconst 0, 1) := by decide +kernel
theorem dX10_layFar_140 : decode cX10_layFar 140 = .ok (.istore 4, 2) := by decide +kernel
theorem dX10_layFar_142 : decode cX10_layFar 142 = .ok (.aload_n 0, 1) := by decide +kernel
theorem dX10_layFar_143 : decode cX10_layFar 143 = .ok (.getfield 71, 3) := by decide +kernel
theorem dX10_layFar_146 : decode cX10_layFar 146 = .ok (.iload 5, 2) := by decide +kernel
theorem dX10_layFar_148 : decode cX10_layFar 148 = .ok (.iload 7, 2) := by decide +kernel
theorem dX10_layFar_150 : decode cX10_layFar 150 = .ok (.aload_n 0, 1) := by decide +kernel
theorem dX10_layFar_151 : decode cX10_layFar 151 = .ok (.getfield 71, 3) := by decide +kernel
theorem dX10_layFar_154 : decode cX10_layFar 154 = .ok (.iload 5, 2) := by decide +kernel
theorem dX10_layFar_156 : decode cX10_layFar 156 = .ok (.iaload, 1) := by decide +kernel
theorem dX10_layFar_157 : decode cX10_layFar 157 = .ok (.if_icmp .ge 8, 3) := by decide +kernel
theorem dX10_layFar_160 : decode cX10_layFar 160 = .ok (.iload 7, 2) := by decide +kernel
theorem dX10_layFar_162 : decode cX10_layFar 162 = .ok (.goto 10, 3) := by decide +kernel
theorem dX10_layFar_165 : decode cX10_layFar 165 = .ok (.aload_n 0, 1) := by decide +kernel
theorem dX10_layFar_166 : decode cX10_layFar 166 = .ok (.getfield 71, 3) := by decide +kernel
theorem dX10_layFar_169 : decode cX10_layFar 169 = .ok (.iload 5, 2) := by decide +kernel
theorem dX10_layFar_171 : decode cX10_layFar 171 = .ok (.iaload, 1) := by decide +kernel
theorem dX10_layFar_172 : decode cX10_layFar 172 = .ok (.iastore, 1) := by decide +kernel
theorem dX10_layFar_173 : decode cX10_layFar 173 = .ok (.iinc 6 1, 3) := by decide +kernel
theorem dX10_layFar_176 : decode cX10_layFar 176 = .ok (.goto (-104), 3) := by decide +kernel
theorem dX10_layFar_179 : decode cX10_layFar 179 = .ok (.iinc 5 1, 3) := by decide +kernel
theorem dX10_layFar_182 : decode cX10_layFar 182 = .ok (.goto (-121), 3) := by decide +kernel
theorem dX10_layFar_185 : decode cX10_layFar 185 = .ok (.goto (-135), 3) := by decide +kernel
theorem dX10_layFar_188 : decode cX10_layFar 188 = .ok (.return_, 1) := by decide +kernel
set_option maxRecDepth 20000 in
theorem ggX10_fewest_X10_isDancer : GoodIn wsX10_fewest wsX10_isDancer := goodIn_r _ [14, 15, 16, 17, 13, 18, 63, 64, 65, 66, 67, 68, 69, 70, 71, 72, 73, 74, 75, 76, 77, 78, 79, 80, 81, 82, 83, 84, 85, 86, 87, 88, 89, 90, 91, 92, 93, 94, 95, 96, 97, 98, 99] (by decide +kernel) (by decide +kernel)
set_option maxRecDepth 20000 in
theorem gX10_fewest_X10_isDancer : GoodIn wsX10_fewest (wsV RX10 169 RX10 yX10_isDancer wsX10_isDancer) := goodIn_app (goodIn_of _ (by decide +kernel)) ggX10_fewest_X10_isDancer
set_option maxRecDepth 20000 in
theorem ggX10_fewest_X10_in : GoodIn wsX10_fewest wsX10_in := goodIn_r _ [18] (by decide +kernel) (by decide +kernel)
set_option maxRecDepth 20000 in
theorem gX10_fewest_X10_in : GoodIn wsX10_fewest (va_wsS RX10 74 yX10_in wsX10_in) := goodIn_app (goodIn_of _ (by decide +kernel)) ggX10_fewest_X10_in
set_option maxRecDepth 20000 in
theorem ggX10_fewest_X10_dances : GoodIn wsX10_fewest wsX10_dances := goodIn_r _ [22, 1, 23, 2, 24, 3, 25, 4, 26, 6, 7, 8, 9, 27, 28, 29, 13, 30, 31, 32, 33, 34, 35, 36, 37, 38, 39, 40, 41, 42, 43, 44, 45, 16, 17, 18, 63, 64, 65, 66, 67, 68, 69, 70, 71, 72, 73, 74, 75, 76, 77, 78, 79, 80, 81, 82, 83, 84, 85, 86, 87, 88, 89, 90, 91, 92, 93, 94, 95, 96, 97, 98, 99] (by decide +kernel) (by decide +kernel)
set_option maxRecDepth 20000 in
theorem gX10_fewest_X10_dances : GoodIn wsX10_fewest (wsV RX10 172 RX10 yX10_dances wsX10_dances) := goodIn_app (goodIn_of _ (by decide +kernel)) ggX10_fewest_X10_dances
set_option maxRecDepth 20000 in
theorem ggX10_fewest_X10_standing : GoodIn wsX10_fewest wsX10_standing := goodIn_r _ [48] (by decide +kernel) (by decide +kernel)
set_option maxRecDepth 20000 in
theorem gX10_fewest_X10_standing : GoodIn wsX10_fewest (va_wsS RX10 211 yX10_standing wsX10_standing) := goodIn_app (goodIn_of _ (by decide +kernel)) ggX10_fewest_X10_standing
set_option maxRecDepth 20000 in
theorem ggX10_fewest_X10_layFar : GoodIn wsX10_fewest wsX10_layFar := goodIn_r _ [52, 5, 6, 7, 8, 9, 46, 47, 13, 48, 53, 54, 55, 56, 57, 58, 59, 60, 61, 62, 36, 37, 38, 39, 40, 41, 42, 43, 44, 45, 16, 17, 18, 63, 64, 65, 66, 67, 68, 69, 70, 71, 72, 73, 74, 75, 76, 77, 78, 79, 80, 81, 82, 83, 84, 85, 86, 87, 88, 89, 90, 91, 92, 93, 94, 95, 96, 97, 98, 99] (by decide +kernel) (by decide +kernel)
set_option maxRecDepth 20000 in
theorem gX10_fewest_X10_layFar : GoodIn wsX10_fewest (wsV RX10 218 RX10 yX10_layFar wsX10_layFar) := goodIn_app (goodIn_of _ (by decide +kernel)) ggX10_fewest_X10_layFar
set_option maxRecDepth 20000 in
theorem ggX10_fewest_X10_leadsFrom : GoodIn wsX10_fewest wsX10_leadsFrom := goodIn_r _ [56, 57, 58, 13, 59, 60, 61, 62, 36, 37, 38, 39, 6, 7, 8, 9, 40, 41, 42, 43, 44, 45, 16, 17, 18, 63, 64, 65, 66, 67, 68, 69, 70, 71, 72, 73, 74, 75, 76, 77, 78, 79, 80, 81, 82, 83, 84, 85, 86, 87, 88, 89, 90, 91, 92, 93, 94, 95, 96, 97, 98, 99] (by decide +kernel) (by decide +kernel)
set_option maxRecDepth 20000 in
theorem gX10_fewest_X10_leadsFrom : GoodIn wsX10_fewest (wsV RX10 215 RX10 yX10_leadsFrom wsX10_leadsFrom) := goodIn_app (goodIn_of _ (by decide +kernel)) ggX10_fewest_X10_leadsFrom
theorem dX10_fewest_0 : decode cX10_fewest 0 = .ok (.aload_n 0, 1) := by decide +kernel
theorem dX10_fewest_1 : decode cX10_fewest 1 = .ok (.iload_n 1, 1) := by decide +kernel
theorem dX10_fewest_2 : decode cX10_fewest 2 = .ok (.invokevirtual 169, 3) := by decide +kernel
theorem dX10_fewest_5 : decode cX10_fewest 5 = .ok (.ifCond .eq 51, 3) := by decide +kernel
theorem dX10_fewest_8 : decode cX10_fewest 8 = .ok (.iload_n 2, 1) := by decide +kernel
theorem dX10_fewest_9 : decode cX10_fewest 9 = .ok (.iconst 0, 1) := by decide +kernel
theorem dX10_fewest_10 : decode cX10_fewest 10 = .ok (.bipush 10, 2) := by decide +kernel
theorem dX10_fewest_12 : decode cX10_fewest 12 = .ok (.invokestatic 74, 3) := by decide +kernel
theorem dX10_fewest_15 : decode cX10_fewest 15 = .ok (.ifCond .eq 41, 3) := by decide +kernel
theorem dX10_fewest_18 : decode cX10_fewest 18 = .ok (.iload_n 3, 1) := by decide +kernel
theorem dX10_fewest_19 : decode cX10_fewest 19 = .ok (.iconst 0, 1) := by decide +kernel
theorem dX10_fewest_20 : decode cX10_fewest 20 = .ok (.bipush 6, 2) := by decide +kernel
theorem dX10_fewest_22 : decode cX10_fewest 22 = .ok (.invokestatic 74, 3) := by decide +kernel
theorem dX10_fewest_25 : decode cX10_fewest 25 = .ok (.ifCond .eq 31, 3) := by decide +kernel
theorem dX10_fewest_28 : decode cX10_fewest 28 = .ok (.iload 4, 2) := by decide +kernel
theorem dX10_fewest_30 : decode cX10_fewest 30 = .ok (.iconst 0, 1) := by decide +kernel
theorem dX10_fewest_31 : decode cX10_fewest 31 = .ok (.bipush 6, 2) := by decide +kernel
theorem dX10_fewest_33 : decode cX10_fewest 33 = .ok (.invokestatic 74, 3) := by decide +kernel
theorem dX10_fewest_36 : decode cX10_fewest 36 = .ok (.ifCond .eq 20, 3) := by decide +kernel
theorem dX10_fewest_39 : decode cX10_fewest 39 = .ok (.iload 5, 2) := by decide +kernel
theorem dX10_fewest_41 : decode cX10_fewest 41 = .ok (.iconst 0, 1) := by decide +kernel
theorem dX10_fewest_42 : decode cX10_fewest 42 = .ok (.bipush 7, 2) := by decide +kernel
theorem dX10_fewest_44 : decode cX10_fewest 44 = .ok (.invokestatic 74, 3) := by decide +kernel
theorem dX10_fewest_47 : decode cX10_fewest 47 = .ok (.ifCond .eq 9, 3) := by decide +kernel
theorem dX10_fewest_50 : decode cX10_fewest 50 = .ok (.iload 6, 2) := by decide +kernel
theorem dX10_fewest_52 : decode cX10_fewest 52 = .ok (.iconst (-1), 1) := by decide +kernel
theorem dX10_fewest_53 : decode cX10_fewest 53 = .ok (.if_icmp .ge 5, 3) := by decide +kernel
theorem dX10_fewest_56 : decode cX10_fewest 56 = .ok (.iconst (-1), 1) := by decide +kernel
theorem dX10_fewest_57 : decode cX10_fewest 57 = .ok (.ireturn, 1) := by decide +kernel
theorem dX10_fewest_58 : decode cX10_fewest 58 = .ok (.aload_n 0, 1) := by decide +kernel
theorem dX10_fewest_59 : decode cX10_fewest 59 = .ok (.iload_n 1, 1) := by decide +kernel
theorem dX10_fewest_60 : decode cX10_fewest 60 = .ok (.bipush (-9), 2) := by decide +kernel
theorem dX10_fewest_62 : decode cX10_fewest 62 = .ok (.invokevirtual 172, 3) := by decide +kernel
theorem dX10_fewest_65 : decode cX10_fewest 65 = .ok (.aload_n 0, 1) := by decide +kernel
theorem dX10_fewest_66 : decode cX10_fewest 66 = .ok (.getfield 53, 3) := by decide +kernel
theorem dX10_fewest_69 : decode cX10_fewest 69 = .ok (.iload_n 2, 1) := by decide +kernel
theorem dX10_fewest_70 : decode cX10_fewest 70 = .ok (.iaload, 1) := by decide +kernel
theorem dX10_fewest_71 : decode cX10_fewest 71 = .ok (.aload_n 0, 1) := by decide +kernel
theorem dX10_fewest_72 : decode cX10_fewest 72 = .ok (.getfield 56, 3) := by decide +kernel
theorem dX10_fewest_75 : decode cX10_fewest 75 = .ok (.iload_n 2, 1) := by decide +kernel

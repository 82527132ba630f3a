set_option maxRecDepth 20000 in
theorem gX9_staff_X0_shifts : GoodIn wsX9_staff (wsV RX9 148 RX0 yX0_shifts wsX0_shifts) := goodIn_app (goodIn_of _ (by decide +kernel)) ggX9_staff_X0_shifts
set_option maxRecDepth 20000 in
theorem ggX9_staff_X0_home : GoodIn wsX9_staff wsX0_home := goodIn_r _ [96, 37, 38, 97, 98, 99, 11, 100, 41, 6, 42, 119, 120, 121, 122, 123, 124] (by decide +kernel) (by decide +kernel)
set_option maxRecDepth 20000 in
theorem gX9_staff_X0_home : GoodIn wsX9_staff (wsV RX9 151 RX0 yX0_home wsX0_home) := goodIn_app (goodIn_of _ (by decide +kernel)) ggX9_staff_X0_home
theorem dX9_staff_0 : decode cX9_staff 0 = .ok (.aload_n 0, 1) := by decide +kernel
theorem dX9_staff_1 : decode cX9_staff 1 = .ok (.iload_n 1, 1) := by decide +kernel
theorem dX9_staff_2 : decode cX9_staff 2 = .ok (.invokevirtual 101, 3) := by decide +kernel
theorem dX9_staff_5 : decode cX9_staff 5 = .ok (.ifCond .ne 5, 3) := by decide +kernel
theorem dX9_staff_8 : decode cX9_staff 8 = .ok (.iconst (-1), 1) := by decide +kernel
theorem dX9_staff_9 : decode cX9_staff 9 = .ok (.ireturn, 1) := by decide +kernel
theorem dX9_staff_10 : decode cX9_staff 10 = .ok (.aload_n 0, 1) := by decide +kernel
theorem dX9_staff_11 : decode cX9_staff 11 = .ok (.getfield 60, 3) := by decide +kernel
theorem dX9_staff_14 : decode cX9_staff 14 = .ok (.aload_n 0, 1) := by decide +kernel
theorem dX9_staff_15 : decode cX9_staff 15 = .ok (.getfield 26, 3) := by decide +kernel
theorem dX9_staff_18 : decode cX9_staff 18 = .ok (.iload_n 1, 1) := by decide +kernel
theorem dX9_staff_19 : decode cX9_staff 19 = .ok (.bipush (-9), 2) := by decide +kernel
theorem dX9_staff_21 : decode cX9_staff 21 = .ok (.invokevirtual 117, 3) := by decide +kernel
theorem dX9_staff_24 : decode cX9_staff 24 = .ok (.iload_n 2, 1) := by decide +kernel
theorem dX9_staff_25 : decode cX9_staff 25 = .ok (.tableswitch 79 0 4 #[35, 47, 55, 63, 71], 35) := by decide +kernel
theorem dX9_staff_60 : decode cX9_staff 60 = .ok (.aload_n 0, 1) := by decide +kernel
theorem dX9_staff_61 : decode cX9_staff 61 = .ok (.getfield 26, 3) := by decide +kernel
theorem dX9_staff_64 : decode cX9_staff 64 = .ok (.getfield 104, 3) := by decide +kernel
theorem dX9_staff_67 : decode cX9_staff 67 = .ok (.iload_n 1, 1) := by decide +kernel
theorem dX9_staff_68 : decode cX9_staff 68 = .ok (.invokevirtual 138, 3) := by decide +kernel
theorem dX9_staff_71 : decode cX9_staff 71 = .ok (.ireturn, 1) := by decide +kernel
theorem dX9_staff_72 : decode cX9_staff 72 = .ok (.aload_n 0, 1) := by decide +kernel
theorem dX9_staff_73 : decode cX9_staff 73 = .ok (.getfield 60, 3) := by decide +kernel
theorem dX9_staff_76 : decode cX9_staff 76 = .ok (.getfield 142, 3) := by decide +kernel
theorem dX9_staff_79 : decode cX9_staff 79 = .ok (.ireturn, 1) := by decide +kernel
theorem dX9_staff_80 : decode cX9_staff 80 = .ok (.aload_n 0, 1) := by decide +kernel
theorem dX9_staff_81 : decode cX9_staff 81 = .ok (.getfield 60, 3) := by decide +kernel
theorem dX9_staff_84 : decode cX9_staff 84 = .ok (.invokevirtual 145, 3) := by decide +kernel
theorem dX9_staff_87 : decode cX9_staff 87 = .ok (.ireturn, 1) := by decide +kernel
theorem dX9_staff_88 : decode cX9_staff 88 = .ok (.aload_n 0, 1) := by decide +kernel
theorem dX9_staff_89 : decode cX9_staff 89 = .ok (.getfield 60, 3) := by decide +kernel
theorem dX9_staff_92 : decode cX9_staff 92 = .ok (.invokevirtual 148, 3) := by decide +kernel
theorem dX9_staff_95 : decode cX9_staff 95 = .ok (.ireturn, 1) := by decide +kernel
theorem dX9_staff_96 : decode cX9_staff 96 = .ok (.aload_n 0, 1) := by decide +kernel
theorem dX9_staff_97 : decode cX9_staff 97 = .ok (.getfield 60, 3) := by decide +kernel
theorem dX9_staff_100 : decode cX9_staff 100 = .ok (.invokevirtual 151, 3) := by decide +kernel
theorem dX9_staff_103 : decode cX9_staff 103 = .ok (.ireturn, 1) := by decide +kernel
theorem dX9_staff_104 : decode cX9_staff 104 = .ok (.iconst (-1), 1) := by decide +kernel
theorem dX9_staff_105 : decode cX9_staff 105 = .ok (.ireturn, 1) := by decide +kernel
set_option maxRecDepth 20000 in
theorem ggX9_mirrors_X9_isDancer : GoodIn wsX9_mirrors wsX9_isDancer := goodIn_r _ [7, 2, 60, 61, 62, 63, 64, 65, 66, 67, 68, 69, 70, 71, 72, 73, 74, 75, 76, 77] (by decide +kernel) (by decide +kernel)
set_option maxRecDepth 20000 in
theorem gX9_mirrors_X9_isDancer : GoodIn wsX9_mirrors (wsV RX9 101 RX9 yX9_isDancer wsX9_isDancer) := goodIn_app (goodIn_of _ (by decide +kernel)) ggX9_mirrors_X9_isDancer
set_option maxRecDepth 20000 in
theorem ggX9_mirrors_X1_remember : GoodIn wsX9_mirrors wsX1_remember := goodIn_r _ [12, 13, 14, 15, 16, 17, 18, 19, 20, 11, 21, 22, 23, 24, 25, 26, 27, 28, 29, 30, 31, 32, 33, 34, 35, 36, 37, 38, 39, 40, 41, 42, 43, 78, 79, 80, 81, 82, 83, 84] (by decide +kernel) (by decide +kernel)
set_option maxRecDepth 20000 in
theorem gX9_mirrors_X1_remember : GoodIn wsX9_mirrors (wsV RX9 154 RX1 yX1_remember wsX1_remember) := goodIn_app (goodIn_of _ (by decide +kernel)) ggX9_mirrors_X1_remember
set_option maxRecDepth 20000 in
theorem ggX9_mirrors_X5_mirror : GoodIn wsX9_mirrors wsX5_mirror := goodIn_r _ [47, 48, 27, 28, 29, 30, 31, 32, 33, 34, 49, 36, 37, 38, 39, 40, 41, 42, 43, 50, 51, 52, 53, 6, 54, 55, 56, 57, 58, 83, 84] (by decide +kernel) (by decide +kernel)
set_option maxRecDepth 20000 in
theorem gX9_mirrors_X5_mirror : GoodIn wsX9_mirrors (wsV RX9 158 RX5 yX5_mirror wsX5_mirror) := goodIn_app (goodIn_of _ (by decide +kernel)) ggX9_mirrors_X5_mirror
set_option maxRecDepth 20000 in
theorem ggX9_mirrors_X5_lengthOf : GoodIn wsX9_mirrors wsX5_lengthOf := goodIn_r _ [30, 31, 32, 33, 29, 34, 83, 84] (by decide +kernel) (by decide +kernel)
set_option maxRecDepth 20000 in
theorem gX9_mirrors_X5_lengthOf : GoodIn wsX9_mirrors (wsV RX9 138 RX5 yX5_lengthOf wsX5_lengthOf) := goodIn_app (goodIn_of _ (by decide +kernel)) ggX9_mirrors_X5_lengthOf
theorem dX9_mirrors_0 : decode cX9_mirrors 0 = .ok (.aload_n 0, 1) := by decide +kernel
theorem dX9_mirrors_1 : decode cX9_mirrors 1 = .ok (.iload_n 1, 1) := by decide +kernel
theorem dX9_mirrors_2 : decode cX9_mirrors 2 = .ok (.invokevirtual 101, 3) := by decide +kernel
theorem dX9_mirrors_5 : decode cX9_mirrors 5 = .ok (.ifCond .ne 5, 3) := by decide +kernel
theorem dX9_mirrors_8 : decode cX9_mirrors 8 = .ok (.iconst (-1), 1) := by decide +kernel
theorem dX9_mirrors_9 : decode cX9_mirrors 9 = .ok (.ireturn, 1) := by decide +kernel
theorem dX9_mirrors_10 : decode cX9_mirrors 10 = .ok (.aload_n 0, 1) := by decide +kernel
theorem dX9_mirrors_11 : decode cX9_mirrors 11 = .ok (.getfield 36, 3) := by decide +kernel
theorem dX9_mirrors_14 : decode cX9_mirrors 14 = .ok (.aload_n 0, 1) := by decide +kernel
theorem dX9_mirrors_15 : decode cX9_mirrors 15 = .ok (.getfield 26, 3) := by decide +kernel
theorem dX9_mirrors_18 : decode cX9_mirrors 18 = .ok (.getfield 104, 3) := by decide +kernel
theorem dX9_mirrors_21 : decode cX9_mirrors 21 = .ok (.iload_n 1, 1) := by decide +kernel
theorem dX9_mirrors_22 : decode cX9_mirrors 22 = .ok (.invokevirtual 154, 3) := by decide +kernel
theorem dX9_mirrors_25 : decode cX9_mirrors 25 = .ok (.aload_n 0, 1) := by decide +kernel
theorem dX9_mirrors_26 : decode cX9_mirrors 26 = .ok (.getfield 26, 3) := by decide +kernel
theorem dX9_mirrors_29 : decode cX9_mirrors 29 = .ok (.getfield 104, 3) := by decide +kernel
theorem dX9_mirrors_32 : decode cX9_mirrors 32 = .ok (.iload_n 1, 1) := by decide +kernel
theorem dX9_mirrors_33 : decode cX9_mirrors 33 = .ok (.invokevirtual 158, 3) := by decide +kernel
theorem dX9_mirrors_36 : decode cX9_mirrors 36 = .ok (.aload_n 0, 1) := by decide +kernel
theorem dX9_mirrors_37 : decode cX9_mirrors 37 = .ok (.getfield 26, 3) := by decide +kernel
theorem dX9_mirrors_40 : decode cX9_mirrors 40 = .ok (.getfield 104, 3) := by decide +kernel
theorem dX9_mirrors_43 : decode cX9_mirrors 43 = .ok (.iload_n 1, 1) := by decide +kernel
theorem dX9_mirrors_44 : decode cX9_mirrors 44 = .ok (.invokevirtual 138, 3) := by decide +kernel
theorem dX9_mirrors_47 : decode cX9_mirrors 47 = .ok (.ireturn, 1) := by decide +kernel
set_option maxRecDepth 20000 in
theorem ggX9_canons_X9_areTwo : GoodIn wsX9_canons wsX9_areTwo := goodIn_r _ [7, 8, 9, 10, 6, 11, 2, 67, 68, 69, 70, 71, 72, 73, 74, 75, 76, 77, 78, 79, 80, 81, 82, 83, 84] (by decide +kernel) (by decide +kernel)
set_option maxRecDepth 20000 in
theorem gX9_canons_X9_areTwo : GoodIn wsX9_canons (wsV RX9 162 RX9 yX9_areTwo wsX9_areTwo) := goodIn_app (goodIn_of _ (by decide +kernel)) ggX9_canons_X9_areTwo
set_option maxRecDepth 20000 in
theorem ggX9_canons_X1_remember : GoodIn wsX9_canons wsX1_remember := goodIn_r _ [16, 17, 18, 19, 20, 21, 22, 23, 24, 15, 25, 26, 27, 28, 29, 30, 31, 32, 33, 34, 35, 36, 37, 38, 39, 40, 41, 42, 43, 44, 45, 46, 47, 85, 86, 87, 88, 89, 90, 91] (by decide +kernel) (by decide +kernel)
set_option maxRecDepth 20000 in
theorem gX9_canons_X1_remember : GoodIn wsX9_canons (wsV RX9 154 RX1 yX1_remember wsX1_remember) := goodIn_app (goodIn_of _ (by decide +kernel)) ggX9_canons_X1_remember
set_option maxRecDepth 20000 in
theorem ggX9_canons_X5_makeCanon : GoodIn wsX9_canons wsX5_makeCanon := goodIn_r _ [51, 52, 53, 54, 55, 56, 31, 32, 33, 34, 35, 36, 37, 38, 57, 58, 59, 60, 61, 40, 41, 42, 43, 44, 45, 46, 47, 62, 63, 64, 65, 90, 91] (by decide +kernel) (by decide +kernel)
set_option maxRecDepth 20000 in
theorem gX9_canons_X5_makeCanon : GoodIn wsX9_canons (wsV RX9 166 RX5 yX5_makeCanon wsX5_makeCanon) := goodIn_app (goodIn_of _ (by decide +kernel)) ggX9_canons_X5_makeCanon
set_option maxRecDepth 20000 in
theorem ggX9_canons_X5_lengthOf : GoodIn wsX9_canons wsX5_lengthOf := goodIn_r _ [34, 35, 36, 37, 33, 38, 90, 91] (by decide +kernel) (by decide +kernel)
set_option maxRecDepth 20000 in
theorem gX9_canons_X5_lengthOf : GoodIn wsX9_canons (wsV RX9 138 RX5 yX5_lengthOf wsX5_lengthOf) := goodIn_app (goodIn_of _ (by decide +kernel)) ggX9_canons_X5_lengthOf
theorem dX9_canons_0 : decode cX9_canons 0 = .ok (.aload_n 0, 1) := by decide +kernel
theorem dX9_canons_1 : decode cX9_canons 1 = .ok (.iload_n 1, 1) := by decide +kernel
theorem dX9_canons_2 : decode cX9_canons 2 = .ok (.iload_n 2, 1) := by decide +kernel
theorem dX9_canons_3 : decode cX9_canons 3 = .ok (.invokevirtual 162, 3) := by decide +kernel
theorem dX9_canons_6 : decode cX9_canons 6 = .ok (.ifCond .eq 12, 3) := by decide +kernel
theorem dX9_canons_9 : decode cX9_canons 9 = .ok (.iload_n 3, 1) := by decide +kernel
theorem dX9_canons_10 : decode cX9_canons 10 = .ok (.ifCond .lt 8, 3) := by decide +kernel
theorem dX9_canons_13 : decode cX9_canons 13 = .ok (.iload_n 3, 1) := by decide +kernel
theorem dX9_canons_14 : decode cX9_canons 14 = .ok (.iconst 4, 1) := by decide +kernel
theorem dX9_canons_15 : decode cX9_canons 15 = .ok (.if_icmp .le 5, 3) := by decide +kernel
theorem dX9_canons_18 : decode cX9_canons 18 = .ok (.iconst (-1), 1) := by decide +kernel
theorem dX9_canons_19 : decode cX9_canons 19 = .ok (.ireturn, 1) := by decide +kernel
theorem dX9_canons_20 : decode cX9_canons 20 = .ok (.aload_n 0, 1) := by decide +kernel
theorem dX9_canons_21 : decode cX9_canons 21 = .ok (.getfield 36, 3) := by decide +kernel
theorem dX9_canons_24 : decode cX9_canons 24 = .ok (.aload_n 0, 1) := by decide +kernel
theorem dX9_canons_25 : decode cX9_canons 25 = .ok (.getfield 26, 3) := by decide +kernel
theorem dX9_canons_28 : decode cX9_canons 28 = .ok (.getfield 104, 3) := by decide +kernel
theorem dX9_canons_31 : decode cX9_canons 31 = .ok (.iload_n 1, 1) := by decide +kernel
theorem dX9_canons_32 : decode cX9_canons 32 = .ok (.invokevirtual 154, 3) := by decide +kernel
theorem dX9_canons_35 : decode cX9_canons 35 = .ok (.aload_n 0, 1) := by decide +kernel
theorem dX9_canons_36 : decode cX9_canons 36 = .ok (.getfield 26, 3) := by decide +kernel
theorem dX9_canons_39 : decode cX9_canons 39 = .ok (.getfield 104, 3) := by decide +kernel
theorem dX9_canons_42 : decode cX9_canons 42 = .ok (.iload_n 1, 1) := by decide +kernel
theorem dX9_canons_43 : decode cX9_canons 43 = .ok (.iload_n 2, 1) := by decide +kernel
theorem dX9_canons_44 : decode cX9_canons 44 = .ok (.iload_n 3, 1) := by decide +kernel
theorem dX9_canons_45 : decode cX9_canons 45 = .ok (.invokevirtual 166, 3) := by decide +kernel
theorem dX9_canons_48 : decode cX9_canons 48 = .ok (.aload_n 0, 1) := by decide +kernel
theorem dX9_canons_49 : decode cX9_canons 49 = .ok (.getfield 26, 3) := by decide +kernel
theorem dX9_canons_52 : decode cX9_canons 52 = .ok (.getfield 104, 3) := by decide +kernel
theorem dX9_canons_55 : decode cX9_canons 55 = .ok (.iload_n 1, 1) := by decide +kernel
theorem dX9_canons_56 : decode cX9_canons 56 = .ok (.invokevirtual 138, 3) := by decide +kernel
theorem dX9_canons_59 : decode cX9_canons 59 = .ok (.ireturn, 1) := by decide +kernel
set_option maxRecDepth 20000 in
theorem ggX9_changes_X9_isDancer : GoodIn wsX9_changes wsX9_isDancer := goodIn_r _ [7, 1, 52, 53, 54, 55, 56, 57, 58, 59, 60, 61, 62, 63, 64, 65, 66, 67, 68, 69] (by decide +kernel) (by decide +kernel)
set_option maxRecDepth 20000 in
theorem gX9_changes_X9_isDancer : GoodIn wsX9_changes (wsV RX9 101 RX9 yX9_isDancer wsX9_isDancer) := goodIn_app (goodIn_of _ (by decide +kernel)) ggX9_changes_X9_isDancer
set_option maxRecDepth 20000 in
theorem ggX9_changes_X9_isSign : GoodIn wsX9_changes wsX9_isSign := goodIn_r _ [10] (by decide +kernel) (by decide +kernel)
set_option maxRecDepth 20000 in
theorem gX9_changes_X9_isSign : GoodIn wsX9_changes (va_wsS RX9 170 yX9_isSign wsX9_isSign) := goodIn_app (goodIn_of _ (by decide +kernel)) ggX9_changes_X9_isSign
set_option maxRecDepth 20000 in
theorem ggX9_changes_X5_signAt : GoodIn wsX9_changes wsX5_signAt := goodIn_r _ [15, 16, 17, 18, 19, 14, 20, 21, 22, 23, 24, 70, 71] (by decide +kernel) (by decide +kernel)
set_option maxRecDepth 20000 in
theorem gX9_changes_X5_signAt : GoodIn wsX9_changes (wsV RX9 108 RX5 yX5_signAt wsX5_signAt) := goodIn_app (goodIn_of _ (by decide +kernel)) ggX9_changes_X5_signAt
set_option maxRecDepth 20000 in
theorem ggX9_changes_X1_remember : GoodIn wsX9_changes wsX1_remember := goodIn_r _ [29, 30, 31, 32, 33, 34, 35, 36, 37, 28, 38, 39, 40, 41, 42, 43, 44, 45, 14, 46, 21, 22, 23, 24, 47, 12, 13, 15, 16, 17, 18, 19, 20, 72, 73, 74, 75, 76, 70, 71] (by decide +kernel) (by decide +kernel)
set_option maxRecDepth 20000 in
theorem gX9_changes_X1_remember : GoodIn wsX9_changes (wsV RX9 154 RX1 yX1_remember wsX1_remember) := goodIn_app (goodIn_of _ (by decide +kernel)) ggX9_changes_X1_remember
set_option maxRecDepth 20000 in
theorem ggX9_changes_X5_replace : GoodIn wsX9_changes wsX5_replace := goodIn_r _ [51, 16, 17, 18, 19, 14, 20, 21, 22, 23, 24, 70, 71] (by decide +kernel) (by decide +kernel)
set_option maxRecDepth 20000 in
theorem gX9_changes_X5_replace : GoodIn wsX9_changes (wsV RX9 173 RX5 yX5_replace wsX5_replace) := goodIn_app (goodIn_of _ (by decide +kernel)) ggX9_changes_X5_replace
theorem dX9_changes_0 : decode cX9_changes 0 = .ok (.aload_n 0, 1) := by decide +kernel
theorem dX9_changes_1 : decode cX9_changes 1 = .ok (.iload_n 1, 1) := by decide +kernel
theorem dX9_changes_2 : decode cX9_changes 2 = .ok (.invokevirtual 101, 3) := by decide +kernel
theorem dX9_changes_5 : decode cX9_changes 5 = .ok (.ifCond .eq 10, 3) := by decide +kernel
theorem dX9_changes_8 : decode cX9_changes 8 = .ok (.iload_n 3, 1) := by decide +kernel
theorem dX9_changes_9 : decode cX9_changes 9 = .ok (.invokestatic 170, 3) := by decide +kernel
theorem dX9_changes_12 : decode cX9_changes 12 = .ok (.ifCond .ne 5, 3) := by decide +kernel
theorem dX9_changes_15 : decode cX9_changes 15 = .ok (.iconst (-1), 1) := by decide +kernel
theorem dX9_changes_16 : decode cX9_changes 16 = .ok (.ireturn, 1) := by decide +kernel
theorem dX9_changes_17 : decode cX9_changes 17 = .ok (.aload_n 0, 1) := by decide +kernel
theorem dX9_changes_18 : decode cX9_changes 18 = .ok (.getfield 26, 3) := by decide +kernel
theorem dX9_changes_21 : decode cX9_changes 21 = .ok (.getfield 104, 3) := by decide +kernel
theorem dX9_changes_24 : decode cX9_changes 24 = .ok (.iload_n 1, 1) := by decide +kernel
theorem dX9_changes_25 : decode cX9_changes 25 = .ok (.iload_n 2, 1) := by decide +kernel
theorem dX9_changes_26 : decode cX9_changes 26 = .ok (.invokevirtual 108, 3) := by decide +kernel
theorem dX9_changes_29 : decode cX9_changes 29 = .ok (.istore 4, 2) := by decide +kernel
theorem dX9_changes_31 : decode cX9_changes 31 = .ok (.iload 4, 2) := by decide +kernel
theorem dX9_changes_33 : decode cX9_changes 33 = .ok (.bipush (-9), 2) := by decide +kernel
theorem dX9_changes_35 : decode cX9_changes 35 = .ok (.if_icmp .ne 5, 3) := by decide +kernel
theorem dX9_changes_38 : decode cX9_changes 38 = .ok (.iconst (-1), 1) := by decide +kernel
theorem dX9_changes_39 : decode cX9_changes 39 = .ok (.ireturn, 1) := by decide +kernel
theorem dX9_changes_40 : decode cX9_changes 40 = .ok (.iload 4, 2) := by decide +kernel
theorem dX9_changes_42 : decode cX9_changes 42 = .ok (.iload_n 3, 1) := by decide +kernel
theorem dX9_changes_43 : decode cX9_changes 43 = .ok (.if_icmp .ne 6, 3) := by decide +kernel
theorem dX9_changes_46 : decode cX9_changes 46 = .ok (.bipush (-2), 2) := by decide +kernel
theorem dX9_changes_48 : decode cX9_changes 48 = .ok (.ireturn, 1) := by decide +kernel
theorem dX9_changes_49 : decode cX9_changes 49 = .ok (.aload_n 0, 1) := by decide +kernel
theorem dX9_changes_50 : decode cX9_changes 50 = .ok (.getfield 36, 3) := by decide +kernel
theorem dX9_changes_53 : decode cX9_changes 53 = .ok (.aload_n 0, 1) := by decide +kernel
theorem dX9_changes_54 : decode cX9_changes 54 = .ok (.getfield 26, 3) := by decide +kernel
theorem dX9_changes_57 : decode cX9_changes 57 = .ok (.getfield 104, 3) := by decide +kernel
theorem dX9_changes_60 : decode cX9_changes 60 = .ok (.iload_n 1, 1) := by decide +kernel
theorem dX9_changes_61 : decode cX9_changes 61 = .ok (.invokevirtual 154, 3) := by decide +kernel
theorem dX9_changes_64 : decode cX9_changes 64 = .ok (.aload_n 0, 1) := by decide +kernel
theorem dX9_changes_65 : decode cX9_changes 65 = .ok (.getfield 26, 3) := by decide +kernel
theorem dX9_changes_68 : decode cX9_changes 68 = .ok (.getfield 104, 3) := by decide +kernel
theorem dX9_changes_71 : decode cX9_changes 71 = .ok (.iload_n 1, 1) := by decide +kernel
theorem dX9_changes_72 : decode cX9_changes 72 = .ok (.iload_n 2, 1) := by decide +kernel
theorem dX9_changes_73 : decode cX9_changes 73 = .ok (.iload_n 3, 1) := by decide +kernel
theorem dX9_changes_74 : decode cX9_changes 74 = .ok (.invokevirtual 173, 3) := by decide +kernel
theorem dX9_changes_77 : decode cX9_changes 77 = .ok (.iload 4, 2) := by decide +kernel
theorem dX9_changes_79 : decode cX9_changes 79 = .ok (.ireturn, 1) := by decide +kernel
set_option maxRecDepth 20000 in
theorem ggX9_adds_X9_isDancer : GoodIn wsX9_adds wsX9_isDancer := goodIn_r _ [7, 1, 56, 57, 58, 59, 60, 61, 62, 63, 64, 65, 66, 67, 68, 69, 70, 71, 72, 73] (by decide +kernel) (by decide +kernel)
set_option maxRecDepth 20000 in
theorem gX9_adds_X9_isDancer : GoodIn wsX9_adds (wsV RX9 101 RX9 yX9_isDancer wsX9_isDancer) := goodIn_app (goodIn_of _ (by decide +kernel)) ggX9_adds_X9_isDancer
set_option maxRecDepth 20000 in
theorem ggX9_adds_X9_isSign : GoodIn wsX9_adds wsX9_isSign := goodIn_r _ [10] (by decide +kernel) (by decide +kernel)
set_option maxRecDepth 20000 in
theorem gX9_adds_X9_isSign : GoodIn wsX9_adds (va_wsS RX9 170 yX9_isSign wsX9_isSign) := goodIn_app (goodIn_of _ (by decide +kernel)) ggX9_adds_X9_isSign
set_option maxRecDepth 20000 in
theorem ggX9_adds_X5_lengthOf : GoodIn wsX9_adds wsX5_lengthOf := goodIn_r _ [15, 16, 17, 18, 14, 19, 74, 75] (by decide +kernel) (by decide +kernel)
set_option maxRecDepth 20000 in
theorem gX9_adds_X5_lengthOf : GoodIn wsX9_adds (wsV RX9 138 RX5 yX5_lengthOf wsX5_lengthOf) := goodIn_app (goodIn_of _ (by decide +kernel)) ggX9_adds_X5_lengthOf
set_option maxRecDepth 20000 in
theorem ggX9_adds_X1_remember : GoodIn wsX9_adds wsX1_remember := goodIn_r _ [24, 25, 26, 27, 28, 29, 30, 31, 32, 23, 33, 34, 35, 36, 37, 38, 12, 13, 14, 15, 16, 17, 18, 19, 39, 40, 41, 42, 43, 44, 45, 46, 47, 76, 77, 78, 79, 80, 74, 75] (by decide +kernel) (by decide +kernel)
set_option maxRecDepth 20000 in
theorem gX9_adds_X1_remember : GoodIn wsX9_adds (wsV RX9 154 RX1 yX1_remember wsX1_remember) := goodIn_app (goodIn_of _ (by decide +kernel)) ggX9_adds_X1_remember
set_option maxRecDepth 20000 in
theorem ggX9_adds_X5_append : GoodIn wsX9_adds wsX5_append := goodIn_r _ [51, 16, 17, 18, 14, 19, 52, 53, 54, 55, 43, 44, 45, 46, 47, 74, 75] (by decide +kernel) (by decide +kernel)
set_option maxRecDepth 20000 in
theorem gX9_adds_X5_append : GoodIn wsX9_adds (wsV RX9 176 RX5 yX5_append wsX5_append) := goodIn_app (goodIn_of _ (by decide +kernel)) ggX9_adds_X5_append
theorem dX9_adds_0 : decode cX9_adds 0 = .ok (.aload_n 0, 1) := by decide +kernel
theorem dX9_adds_1 : decode cX9_adds 1 = .ok (.iload_n 1, 1) := by decide +kernel
theorem dX9_adds_2 : decode cX9_adds 2 = .ok (.invokevirtual 101, 3) := by decide +kernel
theorem dX9_adds_5 : decode cX9_adds 5 = .ok (.ifCond .eq 10, 3) := by decide +kernel
theorem dX9_adds_8 : decode cX9_adds 8 = .ok (.iload_n 2, 1) := by decide +kernel
theorem dX9_adds_9 : decode cX9_adds 9 = .ok (.invokestatic 170, 3) := by decide +kernel
theorem dX9_adds_12 : decode cX9_adds 12 = .ok (.ifCond .ne 5, 3) := by decide +kernel
theorem dX9_adds_15 : decode cX9_adds 15 = .ok (.iconst (-1), 1) := by decide +kernel
theorem dX9_adds_16 : decode cX9_adds 16 = .ok (.ireturn, 1) := by decide +kernel
theorem dX9_adds_17 : decode cX9_adds 17 = .ok (.aload_n 0, 1) := by decide +kernel
theorem dX9_adds_18 : decode cX9_adds 18 = .ok (.getfield 26, 3) := by decide +kernel
theorem dX9_adds_21 : decode cX9_adds 21 = .ok (.getfield 104, 3) := by decide +kernel
theorem dX9_adds_24 : decode cX9_adds 24 = .ok (.iload_n 1, 1) := by decide +kernel
theorem dX9_adds_25 : decode cX9_adds 25 = .ok (.invokevirtual 138, 3) := by decide +kernel
theorem dX9_adds_28 : decode cX9_adds 28 = .ok (.bipush 10, 2) := by decide +kernel
theorem dX9_adds_30 : decode cX9_adds 30 = .ok (.if_icmp .lt 6, 3) := by decide +kernel
theorem dX9_adds_33 : decode cX9_adds 33 = .ok (.bipush (-3), 2) := by decide +kernel
theorem dX9_adds_35 : decode cX9_adds 35 = .ok (.ireturn, 1) := by decide +kernel
theorem dX9_adds_36 : decode cX9_adds 36 = .ok (.aload_n 0, 1) := by decide +kernel
theorem dX9_adds_37 : decode cX9_adds 37 = .ok (.getfield 36, 3) := by decide +kernel
theorem dX9_adds_40 : decode cX9_adds 40 = .ok (.aload_n 0, 1) := by decide +kernel
theorem dX9_adds_41 : decode cX9_adds 41 = .ok (.getfield 26, 3) := by decide +kernel
theorem dX9_adds_44 : decode cX9_adds 44 = .ok (.getfield 104, 3) := by decide +kernel
theorem dX9_adds_47 : decode cX9_adds 47 = .ok (.iload_n 1, 1) := by decide +kernel
theorem dX9_adds_48 : decode cX9_adds 48 = .ok (.invokevirtual 154, 3) := by decide +kernel
theorem dX9_adds_51 : decode cX9_adds 51 = .ok (.aload_n 0, 1) := by decide +kernel
theorem dX9_adds_52 : decode cX9_adds 52 = .ok (.getfield 26, 3) := by decide +kernel
theorem dX9_adds_55 : decode cX9_adds 55 = .ok (.getfield 104, 3) := by decide +kernel
theorem dX9_adds_58 : decode cX9_adds 58 = .ok (.iload_n 1, 1) := by decide +kernel
theorem dX9_adds_59 : decode cX9_adds 59 = .ok (.iload_n 2, 1) := by decide +kernel
theorem dX9_adds_60 : decode cX9_adds 60 = .ok (.invokevirtual 176, 3) := by decide +kernel
theorem dX9_adds_63 : decode cX9_adds 63 = .ok (.aload_n 0, 1) := by decide +kernel
theorem dX9_adds_64 : decode cX9_adds 64 = .ok (.getfield 26, 3) := by decide +kernel
theorem dX9_adds_67 : decode cX9_adds 67 = .ok (.getfield 104, 3) := by decide +kernel
theorem dX9_adds_70 : decode cX9_adds 70 = .ok (.iload_n 1, 1) := by decide +kernel
theorem dX9_adds_71 : decode cX9_adds 71 = .ok (.invokevirtual 138, 3) := by decide +kernel
theorem dX9_adds_74 : decode cX9_adds 74 = .ok (.ireturn, 1) := by decide +kernel
set_option maxRecDepth 20000 in
theorem ggX9_undo_X1_revert : GoodIn wsX9_undo wsX1_revert := goodIn_r _ [7, 8, 9, 10, 11, 12, 13, 14, 6, 15, 16, 17, 18, 19, 20, 21, 22, 23, 24, 25, 26, 27, 28, 29, 30, 31, 32, 33, 34, 35, 36, 37, 38, 52, 53, 54, 55, 56, 62, 63] (by decide +kernel) (by decide +kernel)
set_option maxRecDepth 20000 in
theorem gX9_undo_X1_revert : GoodIn wsX9_undo (wsV RX9 182 RX1 yX1_revert wsX1_revert) := goodIn_app (goodIn_of _ (by decide +kernel)) ggX9_undo_X1_revert
theorem dX9_undo_0 : decode cX9_undo 0 = .ok (.aload_n 0, 1) := by decide +kernel
theorem dX9_undo_1 : decode cX9_undo 1 = .ok (.getfield 36, 3) := by decide +kernel
theorem dX9_undo_4 : decode cX9_undo 4 = .ok (.getfield 179, 3) := by decide +kernel
theorem dX9_undo_7 : decode cX9_undo 7 = .ok (.ifCond .ne 6, 3) := by decide +kernel
theorem dX9_undo_10 : decode cX9_undo 10 = .ok (.bipush (-2), 2) := by decide +kernel
theorem dX9_undo_12 : decode cX9_undo 12 = .ok (.ireturn, 1) := by decide +kernel
theorem dX9_undo_13 : decode cX9_undo 13 = .ok (.aload_n 0, 1) := by decide +kernel
theorem dX9_undo_14 : decode cX9_undo 14 = .ok (.getfield 36, 3) := by decide +kernel
theorem dX9_undo_17 : decode cX9_undo 17 = .ok (.aload_n 0, 1) := by decide +kernel
theorem dX9_undo_18 : decode cX9_undo 18 = .ok (.getfield 26, 3) := by decide +kernel
theorem dX9_undo_21 : decode cX9_undo 21 = .ok (.getfield 104, 3) := by decide +kernel
theorem dX9_undo_24 : decode cX9_undo 24 = .ok (.invokevirtual 182, 3) := by decide +kernel
theorem dX9_undo_27 : decode cX9_undo 27 = .ok (.aload_n 0, 1) := by decide +kernel
theorem dX9_undo_28 : decode cX9_undo 28 = .ok (.getfield 36, 3) := by decide +kernel
theorem dX9_undo_31 : decode cX9_undo 31 = .ok (.getfield 179, 3) := by decide +kernel
theorem dX9_undo_34 : decode cX9_undo 34 = .ok (.ireturn, 1) := by decide +kernel
set_option maxRecDepth 20000 in
theorem ggX9_meet_X9_areTwo : GoodIn wsX9_meet wsX9_areTwo := goodIn_r _ [5, 6, 7, 8, 4, 9, 10, 100, 101, 102, 103, 104, 105, 106, 107, 108, 109, 110, 111, 112, 113, 114, 115, 116, 117] (by decide +kernel) (by decide +kernel)
set_option maxRecDepth 20000 in
theorem gX9_meet_X9_areTwo : GoodIn wsX9_meet (wsV RX9 162 RX9 yX9_areTwo wsX9_areTwo) := goodIn_app (goodIn_of _ (by decide +kernel)) ggX9_meet_X9_areTwo
set_option maxRecDepth 20000 in
theorem ggX9_meet_X9_followBoth : GoodIn wsX9_meet wsX9_followBoth := goodIn_r _ [14, 15, 10, 16, 17, 18, 19, 20, 21, 22, 23, 24, 25, 26, 27, 28, 29, 30, 31, 32, 33, 34, 35, 36, 37, 38, 39, 40, 41, 42, 43, 44, 45, 46, 47, 48, 49, 50, 4, 51, 52, 53, 54, 55, 56, 57, 58, 59, 60, 61, 62, 63, 64, 65, 66, 67, 68, 69, 70, 71, 72, 73, 74, 75, 76, 77, 78, 100, 101, 102, 103, 104, 105, 106, 107, 108, 109, 110, 111, 112, 118, 119, 120, 121, 122, 123, 113, 114, 115, 116, 117, 124, 125, 126, 127, 128, 129] (by decide +kernel) (by decide +kernel)
set_option maxRecDepth 20000 in
theorem gX9_meet_X9_followBoth : GoodIn wsX9_meet (wsV RX9 186 RX9 yX9_followBoth wsX9_followBoth) := goodIn_app (goodIn_of _ (by decide +kernel)) ggX9_meet_X9_followBoth
set_option maxRecDepth 20000 in
theorem ggX9_meet_X9_firstMeeting : GoodIn wsX9_meet wsX9_firstMeeting := goodIn_r _ [82, 15, 16, 83, 84, 85, 20, 86, 46, 47, 50, 4, 51, 87, 88, 89, 90, 100, 101, 102, 103, 104, 105, 106, 107, 108, 109, 110, 111, 112, 118, 119, 120, 121, 122, 123] (by decide +kernel) (by decide +kernel)
set_option maxRecDepth 20000 in
theorem gX9_meet_X9_firstMeeting : GoodIn wsX9_meet (wsV RX9 189 RX9 yX9_firstMeeting wsX9_firstMeeting) := goodIn_app (goodIn_of _ (by decide +kernel)) ggX9_meet_X9_firstMeeting
set_option maxRecDepth 20000 in
theorem ggX9_meet_X9_firstCrossing : GoodIn wsX9_meet wsX9_firstCrossing := goodIn_r _ [94, 15, 16, 95, 96, 97, 20, 98, 46, 47, 99, 84, 85, 86, 50, 4, 51, 87, 88, 89, 90, 100, 101, 102, 103, 104, 105, 106, 107, 108, 109, 110, 111, 112, 118, 119, 120, 121, 122, 123] (by decide +kernel) (by decide +kernel)
set_option maxRecDepth 20000 in
theorem gX9_meet_X9_firstCrossing : GoodIn wsX9_meet (wsV RX9 192 RX9 yX9_firstCrossing wsX9_firstCrossing) := goodIn_app (goodIn_of _ (by decide +kernel)) ggX9_meet_X9_firstCrossing
theorem dX9_meet_0 : decode cX9_meet 0 = .ok (.aload_n 0, 1) := by decide +kernel
theorem dX9_meet_1 : decode cX9_meet 1 = .ok (.iload_n 1, 1) := by decide +kernel
theorem dX9_meet_2 : decode cX9_meet 2 = .ok (.iload_n 2, 1) := by decide +kernel
theorem dX9_meet_3 : decode cX9_meet 3 = .ok (.invokevirtual 162, 3) := by decide +kernel
theorem dX9_meet_6 : decode cX9_meet 6 = .ok (.ifCond .eq 12, 3) := by decide +kernel
theorem dX9_meet_9 : decode cX9_meet 9 = .ok (.iload_n 3, 1) := by decide +kernel
theorem dX9_meet_10 : decode cX9_meet 10 = .ok (.ifCond .lt 8, 3) := by decide +kernel
theorem dX9_meet_13 : decode cX9_meet 13 = .ok (.iload_n 3, 1) := by decide +kernel
theorem dX9_meet_14 : decode cX9_meet 14 = .ok (.iconst 1, 1) := by decide +kernel
theorem dX9_meet_15 : decode cX9_meet 15 = .ok (.if_icmp .le 5, 3) := by decide +kernel
theorem dX9_meet_18 : decode cX9_meet 18 = .ok (.iconst (-1), 1) := by decide +kernel
theorem dX9_meet_19 : decode cX9_meet 19 = .ok (.ireturn, 1) := by decide +kernel
theorem dX9_meet_20 : decode cX9_meet 20 = .ok (.aload_n 0, 1) := by decide +kernel
theorem dX9_meet_21 : decode cX9_meet 21 = .ok (.iload_n 1, 1) := by decide +kernel
theorem dX9_meet_22 : decode cX9_meet 22 = .ok (.iload_n 2, 1) := by decide +kernel
theorem dX9_meet_23 : decode cX9_meet 23 = .ok (.invokevirtual 186, 3) := by decide +kernel
theorem dX9_meet_26 : decode cX9_meet 26 = .ok (.iload_n 3, 1) := by decide +kernel
theorem dX9_meet_27 : decode cX9_meet 27 = .ok (.ifCond .ne 10, 3) := by decide +kernel
theorem dX9_meet_30 : decode cX9_meet 30 = .ok (.aload_n 0, 1) := by decide +kernel
theorem dX9_meet_31 : decode cX9_meet 31 = .ok (.invokevirtual 189, 3) := by decide +kernel
theorem dX9_meet_34 : decode cX9_meet 34 = .ok (.goto 7, 3) := by decide +kernel
theorem dX9_meet_37 : decode cX9_meet 37 = .ok (.aload_n 0, 1) := by decide +kernel
theorem dX9_meet_38 : decode cX9_meet 38 = .ok (.invokevirtual 192, 3) := by decide +kernel
theorem dX9_meet_41 : decode cX9_meet 41 = .ok (.ireturn, 1) := by decide +kernel
set_option maxRecDepth 20000 in
theorem ggX9_fewest_X9_isDancer : GoodIn wsX9_fewest wsX9_isDancer := goodIn_r _ [8, 2, 103, 104, 105, 106, 107, 108, 109, 110, 111, 112, 113, 114, 115, 116, 117, 118, 119, 120] (by decide +kernel) (by decide +kernel)
set_option maxRecDepth 20000 in
theorem gX9_fewest_X9_isDancer : GoodIn wsX9_fewest (wsV RX9 101 RX9 yX9_isDancer wsX9_isDancer) := goodIn_app (goodIn_of _ (by decide +kernel)) ggX9_fewest_X9_isDancer
set_option maxRecDepth 20000 in
theorem ggX9_fewest_X9_isMoment : GoodIn wsX9_fewest wsX9_isMoment := goodIn_r _ [11] (by decide +kernel) (by decide +kernel)
set_option maxRecDepth 20000 in
theorem gX9_fewest_X9_isMoment : GoodIn wsX9_fewest (va_wsS RX9 114 yX9_isMoment wsX9_isMoment) := goodIn_app (goodIn_of _ (by decide +kernel)) ggX9_fewest_X9_isMoment
set_option maxRecDepth 20000 in
theorem ggX9_fewest_X9_isOnFloor : GoodIn wsX9_fewest wsX9_isOnFloor := goodIn_r _ [14] (by decide +kernel) (by decide +kernel)
set_option maxRecDepth 20000 in
theorem gX9_fewest_X9_isOnFloor : GoodIn wsX9_fewest (va_wsS RX9 195 yX9_isOnFloor wsX9_isOnFloor) := goodIn_app (goodIn_of _ (by decide +kernel)) ggX9_fewest_X9_isOnFloor
set_option maxRecDepth 20000 in
theorem ggX9_fewest_X0_follow : GoodIn wsX9_fewest wsX0_follow := goodIn_r _ [19, 20, 21, 22, 23, 24, 25, 26, 27, 28, 29, 30, 31, 32, 33, 34, 35, 36, 37, 38, 39, 40, 41, 42, 18, 43, 44, 45, 46, 47, 10, 7, 11, 48, 49, 50, 51, 52, 53, 54, 55, 56, 57, 58, 59, 60, 61, 62, 63, 64, 65, 66, 67, 68, 69, 70, 71, 13, 14, 72, 121, 122, 123, 124, 125, 126, 116, 117, 118, 119, 120, 127, 128, 129, 130, 131, 132] (by decide +kernel) (by decide +kernel)
set_option maxRecDepth 20000 in
theorem gX9_fewest_X0_follow : GoodIn wsX9_fewest (wsV RX9 117 RX0 yX0_follow wsX0_follow) := goodIn_app (goodIn_of _ (by decide +kernel)) ggX9_fewest_X0_follow
set_option maxRecDepth 20000 in
theorem ggX9_fewest_X0_bring : GoodIn wsX9_fewest wsX0_bring := goodIn_r _ [76, 44, 45, 46, 47, 10, 7, 11, 77, 32, 33, 34, 35, 36, 37, 38, 39, 121, 122, 123, 124, 125, 126, 127, 128, 129, 130] (by decide +kernel) (by decide +kernel)
set_option maxRecDepth 20000 in
theorem gX9_fewest_X0_bring : GoodIn wsX9_fewest (wsV RX9 121 RX0 yX0_bring wsX0_bring) := goodIn_app (goodIn_of _ (by decide +kernel)) ggX9_fewest_X0_bring
set_option maxRecDepth 20000 in
theorem ggX9_fewest_X6_signsTo : GoodIn wsX9_fewest wsX6_signsTo := goodIn_r _ [81, 36, 82, 83, 84, 85, 37, 86, 87, 88, 38, 127, 128, 129, 130] (by decide +kernel) (by decide +kernel)
set_option maxRecDepth 20000 in
theorem gX9_fewest_X6_signsTo : GoodIn wsX9_fewest (wsV RX9 198 RX6 yX6_signsTo wsX6_signsTo) := goodIn_app (goodIn_of _ (by decide +kernel)) ggX9_fewest_X6_signsTo
set_option maxRecDepth 20000 in
theorem ggX9_fewest_X9_signOnWay : GoodIn wsX9_fewest wsX9_signOnWay := goodIn_r _ [92, 93, 94, 95, 7, 96, 3, 97, 78, 79, 80, 34, 81, 36, 82, 83, 84, 85, 37, 86, 87, 88, 38, 98, 99, 100, 101, 39, 72, 32, 33, 35, 102, 63, 64, 65, 66, 67, 68, 69, 70, 71, 13, 14, 103, 104, 105, 106, 107, 108, 109, 110, 111, 112, 113, 114, 115, 127, 128, 129, 130] (by decide +kernel) (by decide +kernel)
set_option maxRecDepth 20000 in
theorem gX9_fewest_X9_signOnWay : GoodIn wsX9_fewest (wsV RX9 202 RX9 yX9_signOnWay wsX9_signOnWay) := goodIn_app (goodIn_of _ (by decide +kernel)) ggX9_fewest_X9_signOnWay
theorem dX9_fewest_0 : decode cX9_fewest 0 = .ok (.aload_n 0, 1) := by decide +kernel
theorem dX9_fewest_1 : decode cX9_fewest 1 = .ok (.iload_n 1, 1) := by decide +kernel
theorem dX9_fewest_2 : decode cX9_fewest 2 = .ok (.invokevirtual 101, 3) := by decide +kernel
theorem dX9_fewest_5 : decode cX9_fewest 5 = .ok (.ifCond .eq 19, 3) := by decide +kernel
theorem dX9_fewest_8 : decode cX9_fewest 8 = .ok (.iload_n 2, 1) := by decide +kernel
theorem dX9_fewest_9 : decode cX9_fewest 9 = .ok (.invokestatic 114, 3) := by decide +kernel
theorem dX9_fewest_12 : decode cX9_fewest 12 = .ok (.ifCond .eq 12, 3) := by decide +kernel
theorem dX9_fewest_15 : decode cX9_fewest 15 = .ok (.iload_n 3, 1) := by decide +kernel
theorem dX9_fewest_16 : decode cX9_fewest 16 = .ok (.iload 4, 2) := by decide +kernel
theorem dX9_fewest_18 : decode cX9_fewest 18 = .ok (.invokestatic 195, 3) := by decide +kernel
theorem dX9_fewest_21 : decode cX9_fewest 21 = .ok (.ifCond .ne 5, 3) := by decide +kernel
theorem dX9_fewest_24 : decode cX9_fewest 24 = .ok (.iconst (-1), 1) := by decide +kernel
theorem dX9_fewest_25 : decode cX9_fewest 25 = .ok (.ireturn, 1) := by decide +kernel
theorem dX9_fewest_26 : decode cX9_fewest 26 = .ok (.iload 5, 2) := by decide +kernel
theorem dX9_fewest_28 : decode cX9_fewest 28 = .ok (.ifCond .lt 16, 3) := by decide +kernel
theorem dX9_fewest_31 : decode cX9_fewest 31 = .ok (.iload 5, 2) := by decide +kernel
theorem dX9_fewest_33 : decode cX9_fewest 33 = .ok (.bipush 8, 2) := by decide +kernel
theorem dX9_fewest_35 : decode cX9_fewest 35 = .ok (.if_icmp .ge 9, 3) := by decide +kernel
theorem dX9_fewest_38 : decode cX9_fewest 38 = .ok (.iload 6, 2) := by decide +kernel
theorem dX9_fewest_40 : decode cX9_fewest 40 = .ok (.iconst (-1), 1) := by decide +kernel
theorem dX9_fewest_41 : decode cX9_fewest 41 = .ok (.if_icmp .ge 5, 3) := by decide +kernel
theorem dX9_fewest_44 : decode cX9_fewest 44 = .ok (.iconst (-1), 1) := by decide +kernel
theorem dX9_fewest_45 : decode cX9_fewest 45 = .ok (.ireturn, 1) := by decide +kernel
theorem dX9_fewest_46 : decode cX9_fewest 46 = .ok (.aload_n 0, 1) := by decide +kernel
theorem dX9_fewest_47 : decode cX9_fewest 47 = .ok (.getfield 60, 3) := by decide +kernel
theorem dX9_fewest_50 : decode cX9_fewest 50 = .ok (.aload_n 0, 1) := by decide +kernel
theorem dX9_fewest_51 : decode cX9_fewest 51 = .ok (.getfield 26, 3) := by decide +kernel
theorem dX9_fewest_54 : decode cX9_fewest 54 = .ok (.iload_n 1, 1) := by decide +kernel
theorem dX9_fewest_55 : decode cX9_fewest 55 = .ok (.bipush (-9), 2) := by decide +kernel
theorem dX9_fewest_57 : decode cX9_fewest 57 = .ok (.invokevirtual 117, 3) := by decide +kernel
theorem dX9_fewest_60 : decode cX9_fewest 60 = .ok (.aload_n 0, 1) := by decide +kernel
theorem dX9_fewest_61 : decode cX9_fewest 61 = .ok (.getfield 60, 3) := by decide +kernel
theorem dX9_fewest_64 : decode cX9_fewest 64 = .ok (.aload_n 0, 1) := by decide +kernel
theorem dX9_fewest_65 : decode cX9_fewest 65 = .ok (.getfield 70, 3) := by decide +kernel
theorem dX9_fewest_68 : decode cX9_fewest 68 = .ok (.iload_n 2, 1) := by decide +kernel
theorem dX9_fewest_69 : decode cX9_fewest 69 = .ok (.invokevirtual 121, 3) := by decide +kernel
theorem dX9_fewest_72 : decode cX9_fewest 72 = .ok (.aload_n 0, 1) := by decide +kernel
theorem dX9_fewest_73 : decode cX9_fewest 73 = .ok (.getfield 70, 3) := by decide +kernel
theorem dX9_fewest_76 : decode cX9_fewest 76 = .ok (.iload_n 3, 1) := by decide +kernel
theorem dX9_fewest_77 : decode cX9_fewest 77 = .ok (.iload 4, 2) := by decide +kernel
theorem dX9_fewest_79 : decode cX9_fewest 79 = .ok (.iload 5, 2) := by decide +kernel
theorem dX9_fewest_81 : decode cX9_fewest 81 = .ok (.invokevirtual 198, 3) := by decide +kernel
theorem dX9_fewest_84 : decode cX9_fewest 84 = .ok (.istore 7, 2) := by decide +kernel
theorem dX9_fewest_86 : decode cX9_fewest 86 = .ok (.iload 6, 2) := by decide +kernel
theorem dX9_fewest_88 : decode cX9_fewest 88 = .ok (.iconst (-1), 1) := by decide +kernel
theorem dX9_fewest_89 : decode cX9_fewest 89 = .ok (.if_icmp .ne 6, 3) := by decide +kernel
theorem dX9_fewest_92 : decode cX9_fewest 92 = .ok (.iload 7, 2) := by decide +kernel
theorem dX9_fewest_94 : decode cX9_fewest 94 = .ok (.ireturn, 1) := by decide +kernel
theorem dX9_fewest_95 : decode cX9_fewest 95 = .ok (.iload 6, 2) := by decide +kernel
theorem dX9_fewest_97 : decode cX9_fewest 97 = .ok (.iload 7, 2) := by decide +kernel
theorem dX9_fewest_99 : decode cX9_fewest 99 = .ok (.if_icmp .ge 17, 3) := by decide +kernel
theorem dX9_fewest_102 : decode cX9_fewest 102 = .ok (.aload_n 0, 1) := by decide +kernel
theorem dX9_fewest_103 : decode cX9_fewest 103 = .ok (.iload_n 3, 1) := by decide +kernel
theorem dX9_fewest_104 : decode cX9_fewest 104 = .ok (.iload 4, 2) := by decide +kernel
theorem dX9_fewest_106 : decode cX9_fewest 106 = .ok (.iload 5, 2) := by decide +kernel
theorem dX9_fewest_108 : decode cX9_fewest 108 = .ok (.iload 6, 2) := by decide +kernel
theorem dX9_fewest_110 : decode cX9_fewest 110 = .ok (.invokevirtual 202, 3) := by decide +kernel
theorem dX9_fewest_113 : decode cX9_fewest 113 = .ok (.goto 5, 3) := by decide +kernel
theorem dX9_fewest_116 : decode cX9_fewest 116 = .ok (.bipush (-9), 2) := by decide +kernel
theorem dX9_fewest_118 : decode cX9_fewest 118 = .ok (.ireturn, 1) := by decide +kernel
set_option maxRecDepth 20000 in
theorem ggX9_sees_X9_isMoment : GoodIn wsX9_sees wsX9_isMoment := goodIn_r _ [6] (by decide +kernel) (by decide +kernel)
set_option maxRecDepth 20000 in
theorem gX9_sees_X9_isMoment : GoodIn wsX9_sees (va_wsS RX9 114 yX9_isMoment wsX9_isMoment) := goodIn_app (goodIn_of _ (by decide +kernel)) ggX9_sees_X9_isMoment
set_option maxRecDepth 20000 in
theorem ggX9_sees_X9_isOnFloor : GoodIn wsX9_sees wsX9_isOnFloor := goodIn_r _ [9] (by decide +kernel) (by decide +kernel)
set_option maxRecDepth 20000 in
theorem gX9_sees_X9_isOnFloor : GoodIn wsX9_sees (va_wsS RX9 195 yX9_isOnFloor wsX9_isOnFloor) := goodIn_app (goodIn_of _ (by decide +kernel)) ggX9_sees_X9_isOnFloor
set_option maxRecDepth 20000 in
theorem ggX9_sees_X4_add : GoodIn wsX9_sees wsX4_add := goodIn_r _ [14, 15, 16, 17, 18, 37, 38, 39, 40] (by decide +kernel) (by decide +kernel)
set_option maxRecDepth 20000 in
theorem gX9_sees_X4_add : GoodIn wsX9_sees (wsV RX9 207 RX4 yX4_add wsX4_add) := goodIn_app (goodIn_of _ (by decide +kernel)) ggX9_sees_X4_add
theorem dX9_sees_0 : decode cX9_sees 0 = .ok (.aload_n 0, 1) := by decide +kernel
theorem dX9_sees_1 : decode cX9_sees 1 = .ok (.getfield 26, 3) := by decide +kernel
theorem dX9_sees_4 : decode cX9_sees 4 = .ok (.getfield 206, 3) := by decide +kernel
theorem dX9_sees_7 : decode cX9_sees 7 = .ok (.ifCond .eq 18, 3) := by decide +kernel
theorem dX9_sees_10 : decode cX9_sees 10 = .ok (.iload_n 1, 1) := by decide +kernel
theorem dX9_sees_11 : decode cX9_sees 11 = .ok (.invokestatic 114, 3) := by decide +kernel
theorem dX9_sees_14 : decode cX9_sees 14 = .ok (.ifCond .eq 11, 3) := by decide +kernel
theorem dX9_sees_17 : decode cX9_sees 17 = .ok (.iload_n 2, 1) := by decide +kernel
theorem dX9_sees_18 : decode cX9_sees 18 = .ok (.iload_n 3, 1) := by decide +kernel
theorem dX9_sees_19 : decode cX9_sees 19 = .ok (.invokestatic 195, 3) := by decide +kernel
theorem dX9_sees_22 : decode cX9_sees 22 = .ok (.ifCond .ne 5, 3) := by decide +kernel
theorem dX9_sees_25 : decode cX9_sees 25 = .ok (.iconst (-1), 1) := by decide +kernel
theorem dX9_sees_26 : decode cX9_sees 26 = .ok (.ireturn, 1) := by decide +kernel
theorem dX9_sees_27 : decode cX9_sees 27 = .ok (.aload_n 0, 1) := by decide +kernel
theorem dX9_sees_28 : decode cX9_sees 28 = .ok (.getfield 43, 3) := by decide +kernel
theorem dX9_sees_31 : decode cX9_sees 31 = .ok (.iload_n 1, 1) := by decide +kernel
theorem dX9_sees_32 : decode cX9_sees 32 = .ok (.iload_n 2, 1) := by decide +kernel
theorem dX9_sees_33 : decode cX9_sees 33 = .ok (.iload_n 3, 1) := by decide +kernel
theorem dX9_sees_34 : decode cX9_sees 34 = .ok (.invokevirtual 207, 3) := by decide +kernel
theorem dX9_sees_37 : decode cX9_sees 37 = .ok (.ifCond .eq 13, 3) := by decide +kernel
theorem dX9_sees_40 : decode cX9_sees 40 = .ok (.aload_n 0, 1) := by decide +kernel
theorem dX9_sees_41 : decode cX9_sees 41 = .ok (.getfield 43, 3) := by decide +kernel
theorem dX9_sees_44 : decode cX9_sees 44 = .ok (.getfield 211, 3) := by decide +kernel
theorem dX9_sees_47 : decode cX9_sees 47 = .ok (.goto 5, 3) := by decide +kernel
theorem dX9_sees_50 : decode cX9_sees 50 = .ok (.bipush (-3), 2) := by decide +kernel
theorem dX9_sees_52 : decode cX9_sees 52 = .ok (.ireturn, 1) := by decide +kernel
set_option maxRecDepth 20000 in
theorem ggX9_forget_X4_empty : GoodIn wsX9_forget wsX4_empty := goodIn_r _ [6, 7, 21, 22, 23, 24] (by decide +kernel) (by decide +kernel)
set_option maxRecDepth 20000 in
theorem gX9_forget_X4_empty : GoodIn wsX9_forget (wsV RX9 97 RX4 yX4_empty wsX4_empty) := goodIn_app (goodIn_of _ (by decide +kernel)) ggX9_forget_X4_empty
theorem dX9_forget_0 : decode cX9_forget 0 = .ok (.aload_n 0, 1) := by decide +kernel
theorem dX9_forget_1 : decode cX9_forget 1 = .ok (.getfield 43, 3) := by decide +kernel
theorem dX9_forget_4 : decode cX9_forget 4 = .ok (.getfield 211, 3) := by decide +kernel
theorem dX9_forget_7 : decode cX9_forget 7 = .ok (.istore_n 1, 1) := by decide +kernel
theorem dX9_forget_8 : decode cX9_forget 8 = .ok (.aload_n 0, 1) := by decide +kernel
theorem dX9_forget_9 : decode cX9_forget 9 = .ok (.getfield 43, 3) := by decide +kernel
theorem dX9_forget_12 : decode cX9_forget 12 = .ok (.invokevirtual 97, 3) := by decide +kernel
theorem dX9_forget_15 : decode cX9_forget 15 = .ok (.iload_n 1, 1) := by decide +kernel
theorem dX9_forget_16 : decode cX9_forget 16 = .ok (.ireturn, 1) := by decide +kernel
set_option maxRecDepth 20000 in
theorem ggX9_unseen_X9_possibleBeats : GoodIn wsX9_unseen wsX9_possibleBeats := goodIn_r _ [5, 6, 7, 8, 9, 10, 11, 12, 13, 14, 15, 16, 17, 18, 19, 20, 21, 22, 23, 24, 25, 26, 27, 28, 29, 30, 31, 32, 33, 34, 35, 36, 37, 38, 39, 40, 41, 42, 43, 44, 45, 46, 47, 48, 49, 50, 51, 4, 52, 53, 54, 55, 56, 57, 58, 59, 60, 61, 62, 63, 64, 65, 66, 67, 68, 69, 70, 71, 72, 73, 74, 75, 76, 77, 78, 79, 80, 81, 82, 83, 84, 85, 86, 87, 88, 89, 90, 91, 92, 93, 94, 95, 96, 97, 98, 99, 100, 101, 102, 103, 104, 105, 106, 107, 108, 109, 110, 111, 112, 113, 114, 115, 116, 117, 118, 119, 120, 121] (by decide +kernel) (by decide +kernel)
set_option maxRecDepth 20000 in
theorem gX9_unseen_X9_possibleBeats : GoodIn wsX9_unseen (wsV RX9 212 RX9 yX9_possibleBeats wsX9_possibleBeats) := goodIn_app (goodIn_of _ (by decide +kernel)) ggX9_unseen_X9_possibleBeats
theorem dX9_unseen_0 : decode cX9_unseen 0 = .ok (.aload_n 0, 1) := by decide +kernel
theorem dX9_unseen_1 : decode cX9_unseen 1 = .ok (.invokevirtual 212, 3) := by decide +kernel
theorem dX9_unseen_4 : decode cX9_unseen 4 = .ok (.ireturn, 1) := by decide +kernel
set_option maxRecDepth 20000 in
theorem ggX9_look_X9_possibleBeats : GoodIn wsX9_look wsX9_possibleBeats := goodIn_r _ [6, 7, 8, 9, 10, 11, 12, 13, 14, 15, 16, 17, 18, 19, 20, 21, 22, 23, 24, 25, 26, 27, 28, 29, 30, 31, 32, 33, 34, 35, 36, 37, 38, 39, 40, 41, 42, 43, 44, 45, 46, 47, 48, 49, 50, 51, 52, 5, 53, 54, 55, 56, 57, 58, 59, 60, 61, 62, 63, 64, 65, 66, 67, 68, 69, 70, 71, 72, 73, 74, 75, 76, 77, 78, 79, 80, 81, 82, 83, 84, 85, 86, 87, 88, 111, 112, 113, 114, 115, 116, 117, 118, 119, 120, 121, 122, 123, 124, 125, 126, 127, 128, 129, 130, 131, 132, 133, 134, 135, 136, 137, 138, 139, 140, 141, 142, 143, 144] (by decide +kernel) (by decide +kernel)
set_option maxRecDepth 20000 in
theorem gX9_look_X9_possibleBeats : GoodIn wsX9_look (wsV RX9 212 RX9 yX9_possibleBeats wsX9_possibleBeats) := goodIn_app (goodIn_of _ (by decide +kernel)) ggX9_look_X9_possibleBeats
set_option maxRecDepth 20000 in
theorem ggX9_look_J6_bitCount_0f7a4 : GoodIn wsX9_look wsJ6_bitCount_0f7a4 := goodIn_r _ [92, 93, 94, 95] (by decide +kernel) (by decide +kernel)
set_option maxRecDepth 20000 in
theorem gX9_look_J6_bitCount_0f7a4 : GoodIn wsX9_look (va_wsS RX9 215 yJ6_bitCount_0f7a4 wsJ6_bitCount_0f7a4) := goodIn_app (goodIn_of _ (by decide +kernel)) ggX9_look_J6_bitCount_0f7a4
set_option maxRecDepth 20000 in
theorem ggX9_look_X9_gatherPlaces : GoodIn wsX9_look wsX9_gatherPlaces := goodIn_r _ [99, 1, 8, 7, 19, 20, 21, 22, 23, 24, 25, 26, 27, 28, 29, 30, 31, 32, 33, 34, 35, 36, 37, 38, 39, 40, 41, 42, 43, 44, 45, 46, 47, 48, 49, 50, 51, 52, 5, 53, 54, 55, 56, 13, 57, 58, 59, 60, 61, 62, 15, 16, 17, 18, 63, 64, 65, 66, 67, 68, 69, 70, 71, 72, 73, 74, 75, 100, 101, 102, 103, 111, 112, 113, 114, 115, 116, 117, 118, 119, 120, 121, 122, 123, 131, 132, 133, 134, 135, 136, 124, 125, 126, 127, 128, 137, 138, 139, 140, 129, 130] (by decide +kernel) (by decide +kernel)
set_option maxRecDepth 20000 in
theorem gX9_look_X9_gatherPlaces : GoodIn wsX9_look (wsV RX9 220 RX9 yX9_gatherPlaces wsX9_gatherPlaces) := goodIn_app (goodIn_of _ (by decide +kernel)) ggX9_look_X9_gatherPlaces
set_option maxRecDepth 20000 in
theorem ggX9_look_J13_bitCount_95d88 : GoodIn wsX9_look wsJ13_bitCount_95d88 := goodIn_r _ [107, 108, 109, 110] (by decide +kernel) (by decide +kernel)
set_option maxRecDepth 20000 in
theorem gX9_look_J13_bitCount_95d88 : GoodIn wsX9_look (va_wsS RX9 223 yJ13_bitCount_95d88 wsJ13_bitCount_95d88) := goodIn_app (goodIn_of _ (by decide +kernel)) ggX9_look_J13_bitCount_95d88
theorem dX9_look_0 : decode cX9_look 0 = .ok (.aload_n 0, 1) := by decide +kernel
theorem dX9_look_1 : decode cX9_look 1 = .ok (.invokevirtual 212, 3) := by decide +kernel
theorem dX9_look_4 : decode cX9_look 4 = .ok (.istore_n 1, 1) := by decide +kernel
theorem dX9_look_5 : decode cX9_look 5 = .ok (.iload_n 1, 1) := by decide +kernel
theorem dX9_look_6 : decode cX9_look 6 = .ok (.invokestatic 215, 3) := by decide +kernel
theorem dX9_look_9 : decode cX9_look 9 = .ok (.iconst 2, 1) := by decide +kernel
theorem dX9_look_10 : decode cX9_look 10 = .ok (.if_icmp .ge 6, 3) := by decide +kernel
theorem dX9_look_13 : decode cX9_look 13 = .ok (.bipush (-9), 2) := by decide +kernel
theorem dX9_look_15 : decode cX9_look 15 = .ok (.ireturn, 1) := by decide +kernel
theorem dX9_look_16 : decode cX9_look 16 = .ok (.aload_n 0, 1) := by decide +kernel
theorem dX9_look_17 : decode cX9_look 17 = .ok (.iload_n 1, 1) := by decide +kernel
theorem dX9_look_18 : decode cX9_look 18 = .ok (.invokevirtual 220, 3) := by decide +kernel
theorem dX9_look_21 : decode cX9_look 21 = .ok (.iconst 1, 1) := by decide +kernel
theorem dX9_look_22 : decode cX9_look 22 = .ok (.istore_n 2, 1) := by decide +kernel
theorem dX9_look_23 : decode cX9_look 23 = .ok (.iconst 2, 1) := by decide +kernel
theorem dX9_look_24 : decode cX9_look 24 = .ok (.istore_n 3, 1) := by decide +kernel
theorem dX9_look_25 : decode cX9_look 25 = .ok (.iload_n 3, 1) := by decide +kernel
theorem dX9_look_26 : decode cX9_look 26 = .ok (.bipush 10, 2) := by decide +kernel
theorem dX9_look_28 : decode cX9_look 28 = .ok (.if_icmp .gt 32, 3) := by decide +kernel
theorem dX9_look_31 : decode cX9_look 31 = .ok (.aload_n 0, 1) := by decide +kernel
theorem dX9_look_32 : decode cX9_look 32 = .ok (.getfield 77, 3) := by decide +kernel
theorem dX9_look_35 : decode cX9_look 35 = .ok (.iload_n 3, 1) := by decide +kernel
theorem dX9_look_36 : decode cX9_look 36 = .ok (.laload, 1) := by decide +kernel
theorem dX9_look_37 : decode cX9_look 37 = .ok (.invokestatic 223, 3) := by decide +kernel
theorem dX9_look_40 : decode cX9_look 40 = .ok (.aload_n 0, 1) := by decide +kernel
theorem dX9_look_41 : decode cX9_look 41 = .ok (.getfield 77, 3) := by decide +kernel
theorem dX9_look_44 : decode cX9_look 44 = .ok (.iload_n 2, 1) := by decide +kernel
theorem dX9_look_45 : decode cX9_look 45 = .ok (.laload, 1) := by decide +kernel
theorem dX9_look_46 : decode cX9_look 46 = .ok (.invokestatic 223, 3) := by decide +kernel
theorem dX9_look_49 : decode cX9_look 49 = .ok (.if_icmp .le 5, 3) := by decide +kernel
theorem dX9_look_52 : decode cX9_look 52 = .ok (.iload_n 3, 1) := by decide +kernel
theorem dX9_look_53 : decode cX9_look 53 = .ok (.istore_n 2, 1) := by decide +kernel
theorem dX9_look_54 : decode cX9_look 54 = .ok (.iinc 3 1, 3) := by decide +kernel
theorem dX9_look_57 : decode cX9_look 57 = .ok (.goto (-32), 3) := by decide +kernel
theorem dX9_look_60 : decode cX9_look 60 = .ok (.iload_n 2, 1) := by decide +kernel
theorem dX9_look_61 : decode cX9_look 61 = .ok (.ireturn, 1) := by decide +kernel
set_option maxRecDepth 20000 in
theorem ggX9_keep_X9_imageOf : GoodIn wsX9_keep wsX9_imageOf := goodIn_r _ [6, 7, 8, 46, 47, 48, 49, 50, 51, 52, 53, 54, 55, 56, 57, 58] (by decide +kernel) (by decide +kernel)
set_option maxRecDepth 20000 in
theorem gX9_keep_X9_imageOf : GoodIn wsX9_keep (wsV RX9 228 RX9 yX9_imageOf wsX9_imageOf) := goodIn_app (goodIn_of _ (by decide +kernel)) ggX9_keep_X9_imageOf
set_option maxRecDepth 20000 in
theorem ggX9_keep_X2_take : GoodIn wsX9_keep wsX2_take := goodIn_r _ [13, 14, 15, 16, 17, 18, 19, 20, 21, 22, 23, 24, 25, 26, 27, 28, 29, 30, 31, 32, 33, 34, 35, 36, 37, 38, 39, 40, 41, 42, 43, 44, 45, 64, 65, 66, 67] (by decide +kernel) (by decide +kernel)
set_option maxRecDepth 20000 in
theorem gX9_keep_X2_take : GoodIn wsX9_keep (wsV RX9 232 RX2 yX2_take wsX2_take) := goodIn_app (goodIn_of _ (by decide +kernel)) ggX9_keep_X2_take
theorem dX9_keep_0 : decode cX9_keep 0 = .ok (.iload_n 1, 1) := by decide +kernel
theorem dX9_keep_1 : decode cX9_keep 1 = .ok (.ifCond .lt 8, 3) := by decide +kernel
theorem dX9_keep_4 : decode cX9_keep 4 = .ok (.iload_n 1, 1) := by decide +kernel
theorem dX9_keep_5 : decode cX9_keep 5 = .ok (.iconst 2, 1) := by decide +kernel
theorem dX9_keep_6 : decode cX9_keep 6 = .ok (.if_icmp .lt 5, 3) := by decide +kernel
theorem dX9_keep_9 : decode cX9_keep 9 = .ok (.iconst (-1), 1) := by decide +kernel
theorem dX9_keep_10 : decode cX9_keep 10 = .ok (.ireturn, 1) := by decide +kernel
theorem dX9_keep_11 : decode cX9_keep 11 = .ok (.aload_n 0, 1) := by decide +kernel
theorem dX9_keep_12 : decode cX9_keep 12 = .ok (.iload_n 1, 1) := by decide +kernel
theorem dX9_keep_13 : decode cX9_keep 13 = .ok (.invokevirtual 228, 3) := by decide +kernel
theorem dX9_keep_16 : decode cX9_keep 16 = .ok (.aload_n 0, 1) := by decide +kernel
theorem dX9_keep_17 : decode cX9_keep 17 = .ok (.getfield 26, 3) := by decide +kernel
theorem dX9_keep_20 : decode cX9_keep 20 = .ok (.getfield 104, 3) := by decide +kernel
theorem dX9_keep_23 : decode cX9_keep 23 = .ok (.invokevirtual 232, 3) := by decide +kernel
theorem dX9_keep_26 : decode cX9_keep 26 = .ok (.aload_n 0, 1) := by decide +kernel
theorem dX9_keep_27 : decode cX9_keep 27 = .ok (.getfield 26, 3) := by decide +kernel
theorem dX9_keep_30 : decode cX9_keep 30 = .ok (.getfield 206, 3) := by decide +kernel
theorem dX9_keep_33 : decode cX9_keep 33 = .ok (.ireturn, 1) := by decide +kernel
set_option maxRecDepth 20000 in
theorem ggX9_back_X9_imageOf : GoodIn wsX9_back wsX9_imageOf := goodIn_r _ [7, 8, 9, 48, 49, 50, 51, 52, 53, 54, 55, 56, 57, 58, 59, 60] (by decide +kernel) (by decide +kernel)
set_option maxRecDepth 20000 in
theorem gX9_back_X9_imageOf : GoodIn wsX9_back (wsV RX9 228 RX9 yX9_imageOf wsX9_imageOf) := goodIn_app (goodIn_of _ (by decide +kernel)) ggX9_back_X9_imageOf
set_option maxRecDepth 20000 in
theorem ggX9_back_X5_copyFrom : GoodIn wsX9_back wsX5_copyFrom := goodIn_r _ [14, 15, 16, 17, 13, 18, 19, 20, 21, 22, 23, 24, 25, 26, 27, 28, 29, 30, 31, 32, 33, 34, 35, 36, 37, 38, 39, 66, 67] (by decide +kernel) (by decide +kernel)
set_option maxRecDepth 20000 in
theorem gX9_back_X5_copyFrom : GoodIn wsX9_back (wsV RX9 240 RX5 yX5_copyFrom wsX5_copyFrom) := goodIn_app (goodIn_of _ (by decide +kernel)) ggX9_back_X5_copyFrom
set_option maxRecDepth 20000 in
theorem ggX9_back_X1_empty : GoodIn wsX9_back wsX1_empty := goodIn_r _ [44, 45, 68, 69, 70, 71, 72] (by decide +kernel) (by decide +kernel)
set_option maxRecDepth 20000 in
theorem gX9_back_X1_empty : GoodIn wsX9_back (wsV RX9 96 RX1 yX1_empty wsX1_empty) := goodIn_app (goodIn_of _ (by decide +kernel)) ggX9_back_X1_empty
theorem dX9_back_0 : decode cX9_back 0 = .ok (.iload_n 1, 1) := by decide +kernel
theorem dX9_back_1 : decode cX9_back 1 = .ok (.ifCond .lt 8, 3) := by decide +kernel
theorem dX9_back_4 : decode cX9_back 4 = .ok (.iload_n 1, 1) := by decide +kernel
theorem dX9_back_5 : decode cX9_back 5 = .ok (.iconst 2, 1) := by decide +kernel
theorem dX9_back_6 : decode cX9_back 6 = .ok (.if_icmp .lt 5, 3) := by decide +kernel
theorem dX9_back_9 : decode cX9_back 9 = .ok (.iconst (-1), 1) := by decide +kernel
theorem dX9_back_10 : decode cX9_back 10 = .ok (.ireturn, 1) := by decide +kernel
theorem dX9_back_11 : decode cX9_back 11 = .ok (.aload_n 0, 1) := by decide +kernel
theorem dX9_back_12 : decode cX9_back 12 = .ok (.iload_n 1, 1) := by decide +kernel
theorem dX9_back_13 : decode cX9_back 13 = .ok (.invokevirtual 228, 3) := by decide +kernel
theorem dX9_back_16 : decode cX9_back 16 = .ok (.getfield 235, 3) := by decide +kernel
theorem dX9_back_19 : decode cX9_back 19 = .ok (.ifCond .ne 6, 3) := by decide +kernel
theorem dX9_back_22 : decode cX9_back 22 = .ok (.bipush (-2), 2) := by decide +kernel
theorem dX9_back_24 : decode cX9_back 24 = .ok (.ireturn, 1) := by decide +kernel
theorem dX9_back_25 : decode cX9_back 25 = .ok (.aload_n 0, 1) := by decide +kernel
theorem dX9_back_26 : decode cX9_back 26 = .ok (.getfield 26, 3) := by decide +kernel
theorem dX9_back_29 : decode cX9_back 29 = .ok (.getfield 104, 3) := by decide +kernel
theorem dX9_back_32 : decode cX9_back 32 = .ok (.aload_n 0, 1) := by decide +kernel
theorem dX9_back_33 : decode cX9_back 33 = .ok (.iload_n 1, 1) := by decide +kernel
theorem dX9_back_34 : decode cX9_back 34 = .ok (.invokevirtual 228, 3) := by decide +kernel
theorem dX9_back_37 : decode cX9_back 37 = .ok (.getfield 239, 3) := by decide +kernel
theorem dX9_back_40 : decode cX9_back 40 = .ok (.invokevirtual 240, 3) := by decide +kernel
theorem dX9_back_43 : decode cX9_back 43 = .ok (.aload_n 0, 1) := by decide +kernel
theorem dX9_back_44 : decode cX9_back 44 = .ok (.getfield 36, 3) := by decide +kernel
theorem dX9_back_47 : decode cX9_back 47 = .ok (.invokevirtual 96, 3) := by decide +kernel
theorem dX9_back_50 : decode cX9_back 50 = .ok (.aload_n 0, 1) := by decide +kernel
theorem dX9_back_51 : decode cX9_back 51 = .ok (.getfield 26, 3) := by decide +kernel
theorem dX9_back_54 : decode cX9_back 54 = .ok (.getfield 206, 3) := by decide +kernel
theorem dX9_back_57 : decode cX9_back 57 = .ok (.ireturn, 1) := by decide +kernel
set_option maxRecDepth 20000 in
theorem ggX9_count_X9_signsOfAll : GoodIn wsX9_count wsX9_signsOfAll := goodIn_r _ [9, 1, 10, 11, 12, 13, 14, 15, 16, 17, 18, 117, 118, 119, 120, 121, 122, 123, 124, 125, 126, 127, 128, 129, 130, 131, 132, 133, 134, 144, 145] (by decide +kernel) (by decide +kernel)
set_option maxRecDepth 20000 in
theorem gX9_count_X9_signsOfAll : GoodIn wsX9_count (wsV RX9 243 RX9 yX9_signsOfAll wsX9_signsOfAll) := goodIn_app (goodIn_of _ (by decide +kernel)) ggX9_count_X9_signsOfAll
set_option maxRecDepth 20000 in
theorem ggX9_count_X9_brokenStaffs : GoodIn wsX9_count wsX9_brokenStaffs := goodIn_r _ [22, 1, 23, 24, 25, 26, 27, 28, 29, 30, 31, 32, 33, 34, 35, 36, 37, 38, 39, 40, 41, 42, 43, 44, 45, 46, 47, 48, 49, 50, 51, 52, 53, 54, 55, 56, 57, 8, 58, 59, 60, 61, 13, 62, 63, 64, 65, 66, 67, 15, 16, 17, 18, 68, 69, 70, 71, 72, 73, 74, 75, 76, 77, 78, 79, 80, 117, 118, 119, 120, 121, 122, 123, 124, 125, 126, 127, 128, 129, 130, 131, 132, 133, 134, 146, 147, 148, 149, 150, 151, 152, 153, 154, 155, 144, 145] (by decide +kernel) (by decide +kernel)
set_option maxRecDepth 20000 in
theorem gX9_count_X9_brokenStaffs : GoodIn wsX9_count (wsV RX9 246 RX9 yX9_brokenStaffs wsX9_brokenStaffs) := goodIn_app (goodIn_of _ (by decide +kernel)) ggX9_count_X9_brokenStaffs
set_option maxRecDepth 20000 in
theorem ggX9_count_X9_twosTogether : GoodIn wsX9_count wsX9_twosTogether := goodIn_r _ [84, 1, 85, 86, 87, 8, 88, 23, 89, 24, 25, 26, 27, 28, 29, 30, 31, 32, 33, 34, 35, 36, 37, 38, 39, 40, 41, 42, 43, 44, 45, 46, 47, 48, 49, 50, 51, 52, 53, 54, 55, 56, 57, 58, 59, 60, 61, 13, 62, 63, 64, 65, 66, 67, 15, 16, 17, 18, 68, 69, 70, 71, 72, 73, 74, 75, 76, 77, 78, 79, 80, 90, 91, 92, 93, 94, 95, 96, 97, 98, 99, 100, 101, 102, 103, 104, 105, 106, 107, 108, 109, 110, 117, 118, 119, 120, 121, 122, 123, 124, 125, 126, 127, 128, 129, 130, 131, 132, 133, 134, 146, 147, 148, 149, 150, 151, 152, 153, 154, 155, 144, 145] (by decide +kernel) (by decide +kernel)
set_option maxRecDepth 20000 in
theorem gX9_count_X9_twosTogether : GoodIn wsX9_count (wsV RX9 249 RX9 yX9_twosTogether wsX9_twosTogether) := goodIn_app (goodIn_of _ (by decide +kernel)) ggX9_count_X9_twosTogether
set_option maxRecDepth 20000 in
theorem ggX9_count_X7_length : GoodIn wsX9_count wsX7_length := goodIn_r _ [115, 116, 156, 157] (by decide +kernel) (by decide +kernel)
set_option maxRecDepth 20000 in
theorem gX9_count_X7_length : GoodIn wsX9_count (wsV RX9 85 RX7 yX7_length wsX7_length) := goodIn_app (goodIn_of _ (by decide +kernel)) ggX9_count_X7_length
theorem dX9_count_0 : decode cX9_count 0 = .ok (.iload_n 1, 1) := by decide +kernel
theorem dX9_count_1 : decode cX9_count 1 = .ok (.tableswitch 90 0 6 #[43, 51, 56, 61, 66, 74, 82], 43) := by decide +kernel
theorem dX9_count_44 : decode cX9_count 44 = .ok (.aload_n 0, 1) := by decide +kernel
theorem dX9_count_45 : decode cX9_count 45 = .ok (.getfield 26, 3) := by decide +kernel
theorem dX9_count_48 : decode cX9_count 48 = .ok (.getfield 206, 3) := by decide +kernel
theorem dX9_count_51 : decode cX9_count 51 = .ok (.ireturn, 1) := by decide +kernel
theorem dX9_count_52 : decode cX9_count 52 = .ok (.aload_n 0, 1) := by decide +kernel
theorem dX9_count_53 : decode cX9_count 53 = .ok (.invokevirtual 243, 3) := by decide +kernel
theorem dX9_count_56 : decode cX9_count 56 = .ok (.ireturn, 1) := by decide +kernel
theorem dX9_count_57 : decode cX9_count 57 = .ok (.aload_n 0, 1) := by decide +kernel
theorem dX9_count_58 : decode cX9_count 58 = .ok (.invokevirtual 246, 3) := by decide +kernel
theorem dX9_count_61 : decode cX9_count 61 = .ok (.ireturn, 1) := by decide +kernel
theorem dX9_count_62 : decode cX9_count 62 = .ok (.aload_n 0, 1) := by decide +kernel
theorem dX9_count_63 : decode cX9_count 63 = .ok (.invokevirtual 249, 3) := by decide +kernel
theorem dX9_count_66 : decode cX9_count 66 = .ok (.ireturn, 1) := by decide +kernel
theorem dX9_count_67 : decode cX9_count 67 = .ok (.aload_n 0, 1) := by decide +kernel
theorem dX9_count_68 : decode cX9_count 68 = .ok (.getfield 43, 3) := by decide +kernel
theorem dX9_count_71 : decode cX9_count 71 = .ok (.getfield 211, 3) := by decide +kernel
theorem dX9_count_74 : decode cX9_count 74 = .ok (.ireturn, 1) := by decide +kernel
theorem dX9_count_75 : decode cX9_count 75 = .ok (.aload_n 0, 1) := by decide +kernel
theorem dX9_count_76 : decode cX9_count 76 = .ok (.getfield 10, 3) := by decide +kernel
theorem dX9_count_79 : decode cX9_count 79 = .ok (.invokevirtual 85, 3) := by decide +kernel
theorem dX9_count_82 : decode cX9_count 82 = .ok (.ireturn, 1) := by decide +kernel
theorem dX9_count_83 : decode cX9_count 83 = .ok (.aload_n 0, 1) := by decide +kernel
theorem dX9_count_84 : decode cX9_count 84 = .ok (.getfield 36, 3) := by decide +kernel
theorem dX9_count_87 : decode cX9_count 87 = .ok (.getfield 179, 3) := by decide +kernel
theorem dX9_count_90 : decode cX9_count 90 = .ok (.ireturn, 1) := by decide +kernel
theorem dX9_count_91 : decode cX9_count 91 = .ok (.iconst (-1), 1) := by decide +kernel
theorem dX9_count_92 : decode cX9_count 92 = .ok (.ireturn, 1) := by decide +kernel
theorem dX9_isDancer_0 : decode cX9_isDancer 0 = .ok (.iload_n 1, 1) := by decide +kernel
theorem dX9_isDancer_1 : decode cX9_isDancer 1 = .ok (.ifCond .lt 18, 3) := by decide +kernel
theorem dX9_isDancer_4 : decode cX9_isDancer 4 = .ok (.iload_n 1, 1) := by decide +kernel
theorem dX9_isDancer_5 : decode cX9_isDancer 5 = .ok (.aload_n 0, 1) := by decide +kernel
theorem dX9_isDancer_6 : decode cX9_isDancer 6 = .ok (.getfield 26, 3) := by decide +kernel
theorem dX9_isDancer_9 : decode cX9_isDancer 9 = .ok (.getfield 206, 3) := by decide +kernel
theorem dX9_isDancer_12 : decode cX9_isDancer 12 = .ok (.if_icmp .ge 7, 3) := by decide +kernel
theorem dX9_isDancer_15 : decode cX9_isDancer 15 = .ok (.iconst 1, 1) := by decide +kernel
theorem dX9_isDancer_16 : decode cX9_isDancer 16 = .ok (.goto 4, 3) := by decide +kernel
theorem dX9_isDancer_19 : decode cX9_isDancer 19 = .ok (.iconst 0, 1) := by decide +kernel
theorem dX9_isDancer_20 : decode cX9_isDancer 20 = .ok (.ireturn, 1) := by decide +kernel
set_option maxRecDepth 20000 in
theorem ggX9_areTwo_X9_isDancer : GoodIn wsX9_areTwo wsX9_isDancer := goodIn_r _ [5, 6, 7, 8, 9, 10, 11, 12, 13, 14, 15, 16, 17, 18, 19, 20, 21, 22, 23, 24] (by decide +kernel) (by decide +kernel)
set_option maxRecDepth 20000 in
theorem gX9_areTwo_X9_isDancer : GoodIn wsX9_areTwo (wsV RX9 101 RX9 yX9_isDancer wsX9_isDancer) := goodIn_app (goodIn_of _ (by decide +kernel)) ggX9_areTwo_X9_isDancer
theorem dX9_areTwo_0 : decode cX9_areTwo 0 = .ok (.aload_n 0, 1) := by decide +kernel
theorem dX9_areTwo_1 : decode cX9_areTwo 1 = .ok (.iload_n 1, 1) := by decide +kernel
theorem dX9_areTwo_2 : decode cX9_areTwo 2 = .ok (.invokevirtual 101, 3) := by decide +kernel
theorem dX9_areTwo_5 : decode cX9_areTwo 5 = .ok (.ifCond .eq 20, 3) := by decide +kernel
theorem dX9_areTwo_8 : decode cX9_areTwo 8 = .ok (.aload_n 0, 1) := by decide +kernel
theorem dX9_areTwo_9 : decode cX9_areTwo 9 = .ok (.iload_n 2, 1) := by decide +kernel
theorem dX9_areTwo_10 : decode cX9_areTwo 10 = .ok (.invokevirtual 101, 3) := by decide +kernel
theorem dX9_areTwo_13 : decode cX9_areTwo 13 = .ok (.ifCond .eq 12, 3) := by decide +kernel
theorem dX9_areTwo_16 : decode cX9_areTwo 16 = .ok (.iload_n 1, 1) := by decide +kernel
theorem dX9_areTwo_17 : decode cX9_areTwo 17 = .ok (.iload_n 2, 1) := by decide +kernel
theorem dX9_areTwo_18 : decode cX9_areTwo 18 = .ok (.if_icmp .eq 7, 3) := by decide +kernel
theorem dX9_areTwo_21 : decode cX9_areTwo 21 = .ok (.iconst 1, 1) := by decide +kernel
theorem dX9_areTwo_22 : decode cX9_areTwo 22 = .ok (.goto 4, 3) := by decide +kernel

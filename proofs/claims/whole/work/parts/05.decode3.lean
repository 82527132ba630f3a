set_option maxRecDepth 20000 in
theorem ggX5_mirrored_X9_directionOf : GoodIn wsX5_mirrored wsX9_directionOf := goodIn_r _ [3] (by decide +kernel) (by decide +kernel)
set_option maxRecDepth 20000 in
theorem gX5_mirrored_X9_directionOf_n50 : GoodIn wsX5_mirrored (wsX9_directionOf) := ggX5_mirrored_X9_directionOf
theorem dX5_mirrored_0 : decode cX5_mirrored 0 = .ok (.iload_n 0, 1) := by decide +kernel
theorem dX5_mirrored_1 : decode cX5_mirrored 1 = .ok (.iconst 2, 1) := by decide +kernel
theorem dX5_mirrored_2 : decode cX5_mirrored 2 = .ok (.if_icmp .ge 5, 3) := by decide +kernel
theorem dX5_mirrored_5 : decode cX5_mirrored 5 = .ok (.iload_n 0, 1) := by decide +kernel
theorem dX5_mirrored_6 : decode cX5_mirrored 6 = .ok (.ireturn, 1) := by decide +kernel
theorem dX5_mirrored_7 : decode cX5_mirrored 7 = .ok (.iload_n 0, 1) := by decide +kernel
theorem dX5_mirrored_8 : decode cX5_mirrored 8 = .ok (.bipush 26, 2) := by decide +kernel
theorem dX5_mirrored_10 : decode cX5_mirrored 10 = .ok (.if_icmp .lt 8, 3) := by decide +kernel
theorem dX5_mirrored_13 : decode cX5_mirrored 13 = .ok (.bipush 58, 2) := by decide +kernel
theorem dX5_mirrored_15 : decode cX5_mirrored 15 = .ok (.iload_n 0, 1) := by decide +kernel
theorem dX5_mirrored_16 : decode cX5_mirrored 16 = .ok (.isub, 1) := by decide +kernel
theorem dX5_mirrored_17 : decode cX5_mirrored 17 = .ok (.ireturn, 1) := by decide +kernel
theorem dX5_mirrored_18 : decode cX5_mirrored 18 = .ok (.bipush 8, 2) := by decide +kernel
theorem dX5_mirrored_20 : decode cX5_mirrored 20 = .ok (.iload_n 0, 1) := by decide +kernel
theorem dX5_mirrored_21 : decode cX5_mirrored 21 = .ok (.invokestatic 50, 3) := by decide +kernel
theorem dX5_mirrored_24 : decode cX5_mirrored 24 = .ok (.isub, 1) := by decide +kernel
theorem dX5_mirrored_25 : decode cX5_mirrored 25 = .ok (.bipush 8, 2) := by decide +kernel
theorem dX5_mirrored_27 : decode cX5_mirrored 27 = .ok (.irem, 1) := by decide +kernel
theorem dX5_mirrored_28 : decode cX5_mirrored 28 = .ok (.istore_n 1, 1) := by decide +kernel
theorem dX5_mirrored_29 : decode cX5_mirrored 29 = .ok (.iload_n 0, 1) := by decide +kernel
theorem dX5_mirrored_30 : decode cX5_mirrored 30 = .ok (.bipush 10, 2) := by decide +kernel
theorem dX5_mirrored_32 : decode cX5_mirrored 32 = .ok (.if_icmp .ge 8, 3) := by decide +kernel
theorem dX5_mirrored_35 : decode cX5_mirrored 35 = .ok (.bipush 10, 2) := by decide +kernel
theorem dX5_mirrored_37 : decode cX5_mirrored 37 = .ok (.iload_n 1, 1) := by decide +kernel
theorem dX5_mirrored_38 : decode cX5_mirrored 38 = .ok (.iadd, 1) := by decide +kernel
theorem dX5_mirrored_39 : decode cX5_mirrored 39 = .ok (.ireturn, 1) := by decide +kernel
theorem dX5_mirrored_40 : decode cX5_mirrored 40 = .ok (.iload_n 0, 1) := by decide +kernel
theorem dX5_mirrored_41 : decode cX5_mirrored 41 = .ok (.bipush 18, 2) := by decide +kernel
theorem dX5_mirrored_43 : decode cX5_mirrored 43 = .ok (.if_icmp .ge 7, 3) := by decide +kernel
theorem dX5_mirrored_46 : decode cX5_mirrored 46 = .ok (.iconst 2, 1) := by decide +kernel
theorem dX5_mirrored_47 : decode cX5_mirrored 47 = .ok (.goto 5, 3) := by decide +kernel
theorem dX5_mirrored_50 : decode cX5_mirrored 50 = .ok (.bipush 18, 2) := by decide +kernel
theorem dX5_mirrored_52 : decode cX5_mirrored 52 = .ok (.iload_n 1, 1) := by decide +kernel
theorem dX5_mirrored_53 : decode cX5_mirrored 53 = .ok (.iadd, 1) := by decide +kernel
theorem dX5_mirrored_54 : decode cX5_mirrored 54 = .ok (.ireturn, 1) := by decide +kernel
theorem dX6_init_0 : decode cX6_init 0 = .ok (.aload_n 0, 1) := by decide +kernel
theorem dX6_init_1 : decode cX6_init 1 = .ok (.invokespecial 3, 3) := by decide +kernel
theorem dX6_init_4 : decode cX6_init 4 = .ok (.return_, 1) := by decide +kernel
theorem dX6_set_0 : decode cX6_set 0 = .ok (.aload_n 0, 1) := by decide +kernel
theorem dX6_set_1 : decode cX6_set 1 = .ok (.iload_n 1, 1) := by decide +kernel
theorem dX6_set_2 : decode cX6_set 2 = .ok (.putfield 9, 3) := by decide +kernel
theorem dX6_set_5 : decode cX6_set 5 = .ok (.aload_n 0, 1) := by decide +kernel
theorem dX6_set_6 : decode cX6_set 6 = .ok (.iload_n 2, 1) := by decide +kernel
theorem dX6_set_7 : decode cX6_set 7 = .ok (.putfield 15, 3) := by decide +kernel
theorem dX6_set_10 : decode cX6_set 10 = .ok (.aload_n 0, 1) := by decide +kernel
theorem dX6_set_11 : decode cX6_set 11 = .ok (.iload_n 3, 1) := by decide +kernel
theorem dX6_set_12 : decode cX6_set 12 = .ok (.putfield 18, 3) := by decide +kernel
theorem dX6_set_15 : decode cX6_set 15 = .ok (.aload_n 0, 1) := by decide +kernel
theorem dX6_set_16 : decode cX6_set 16 = .ok (.iload 4, 2) := by decide +kernel
theorem dX6_set_18 : decode cX6_set 18 = .ok (.putfield 21, 3) := by decide +kernel
theorem dX6_set_21 : decode cX6_set 21 = .ok (.return_, 1) := by decide +kernel
set_option maxRecDepth 20000 in
theorem ggX6_copyFrom_X6_set : GoodIn wsX6_copyFrom wsX6_set := goodIn_r _ [9, 1, 2, 3, 4, 10, 11, 12, 13] (by decide +kernel) (by decide +kernel)
set_option maxRecDepth 20000 in
theorem gX6_copyFrom_X6_set : GoodIn wsX6_copyFrom (wsV RX6 24 RX6 yX6_set wsX6_set) := goodIn_app (goodIn_of _ (by decide +kernel)) ggX6_copyFrom_X6_set
theorem dX6_copyFrom_0 : decode cX6_copyFrom 0 = .ok (.aload_n 0, 1) := by decide +kernel
theorem dX6_copyFrom_1 : decode cX6_copyFrom 1 = .ok (.aload_n 1, 1) := by decide +kernel
theorem dX6_copyFrom_2 : decode cX6_copyFrom 2 = .ok (.getfield 9, 3) := by decide +kernel
theorem dX6_copyFrom_5 : decode cX6_copyFrom 5 = .ok (.aload_n 1, 1) := by decide +kernel
theorem dX6_copyFrom_6 : decode cX6_copyFrom 6 = .ok (.getfield 15, 3) := by decide +kernel
theorem dX6_copyFrom_9 : decode cX6_copyFrom 9 = .ok (.aload_n 1, 1) := by decide +kernel
theorem dX6_copyFrom_10 : decode cX6_copyFrom 10 = .ok (.getfield 18, 3) := by decide +kernel
theorem dX6_copyFrom_13 : decode cX6_copyFrom 13 = .ok (.aload_n 1, 1) := by decide +kernel
theorem dX6_copyFrom_14 : decode cX6_copyFrom 14 = .ok (.getfield 21, 3) := by decide +kernel
theorem dX6_copyFrom_17 : decode cX6_copyFrom 17 = .ok (.invokevirtual 24, 3) := by decide +kernel
theorem dX6_copyFrom_20 : decode cX6_copyFrom 20 = .ok (.return_, 1) := by decide +kernel
set_option maxRecDepth 20000 in
theorem ggX6_take_X9_directionOf : GoodIn wsX6_take wsX9_directionOf := goodIn_r _ [5] (by decide +kernel) (by decide +kernel)
set_option maxRecDepth 20000 in
theorem gX6_take_X9_directionOf_n28 : GoodIn wsX6_take (wsX9_directionOf) := ggX6_take_X9_directionOf
set_option maxRecDepth 20000 in
theorem ggX6_take_X6_goBy : GoodIn wsX6_take wsX6_goBy := goodIn_r _ [10, 2, 11, 12, 13, 4, 14, 15, 16, 17, 9, 18, 1, 19, 20, 21, 22] (by decide +kernel) (by decide +kernel)
set_option maxRecDepth 20000 in
theorem gX6_take_X6_goBy : GoodIn wsX6_take (wsV RX6 32 RX6 yX6_goBy wsX6_goBy) := goodIn_app (goodIn_of _ (by decide +kernel)) ggX6_take_X6_goBy
theorem dX6_take_0 : decode cX6_take 0 = .ok (.iload_n 1, 1) := by decide +kernel
theorem dX6_take_1 : decode cX6_take 1 = .ok (.ifCond .ne 5, 3) := by decide +kernel
theorem dX6_take_4 : decode cX6_take 4 = .ok (.iconst 1, 1) := by decide +kernel
theorem dX6_take_5 : decode cX6_take 5 = .ok (.ireturn, 1) := by decide +kernel
theorem dX6_take_6 : decode cX6_take 6 = .ok (.iload_n 1, 1) := by decide +kernel
theorem dX6_take_7 : decode cX6_take 7 = .ok (.iconst 1, 1) := by decide +kernel
theorem dX6_take_8 : decode cX6_take 8 = .ok (.if_icmp .ne 10, 3) := by decide +kernel
theorem dX6_take_11 : decode cX6_take 11 = .ok (.aload_n 0, 1) := by decide +kernel
theorem dX6_take_12 : decode cX6_take 12 = .ok (.iconst 2, 1) := by decide +kernel
theorem dX6_take_13 : decode cX6_take 13 = .ok (.putfield 21, 3) := by decide +kernel
theorem dX6_take_16 : decode cX6_take 16 = .ok (.iconst 1, 1) := by decide +kernel
theorem dX6_take_17 : decode cX6_take 17 = .ok (.ireturn, 1) := by decide +kernel
theorem dX6_take_18 : decode cX6_take 18 = .ok (.iload_n 1, 1) := by decide +kernel
theorem dX6_take_19 : decode cX6_take 19 = .ok (.bipush 26, 2) := by decide +kernel
theorem dX6_take_21 : decode cX6_take 21 = .ok (.if_icmp .lt 23, 3) := by decide +kernel
theorem dX6_take_24 : decode cX6_take 24 = .ok (.aload_n 0, 1) := by decide +kernel
theorem dX6_take_25 : decode cX6_take 25 = .ok (.aload_n 0, 1) := by decide +kernel
theorem dX6_take_26 : decode cX6_take 26 = .ok (.getfield 18, 3) := by decide +kernel
theorem dX6_take_29 : decode cX6_take 29 = .ok (.iload_n 1, 1) := by decide +kernel
theorem dX6_take_30 : decode cX6_take 30 = .ok (.iadd, 1) := by decide +kernel
theorem dX6_take_31 : decode cX6_take 31 = .ok (.bipush 26, 2) := by decide +kernel
theorem dX6_take_33 : decode cX6_take 33 = .ok (.isub, 1) := by decide +kernel
theorem dX6_take_34 : decode cX6_take 34 = .ok (.iconst 1, 1) := by decide +kernel
theorem dX6_take_35 : decode cX6_take 35 = .ok (.iadd, 1) := by decide +kernel
theorem dX6_take_36 : decode cX6_take 36 = .ok (.bipush 8, 2) := by decide +kernel
theorem dX6_take_38 : decode cX6_take 38 = .ok (.irem, 1) := by decide +kernel
theorem dX6_take_39 : decode cX6_take 39 = .ok (.putfield 18, 3) := by decide +kernel
theorem dX6_take_42 : decode cX6_take 42 = .ok (.iconst 1, 1) := by decide +kernel
theorem dX6_take_43 : decode cX6_take 43 = .ok (.ireturn, 1) := by decide +kernel
theorem dX6_take_44 : decode cX6_take 44 = .ok (.iload_n 1, 1) := by decide +kernel
theorem dX6_take_45 : decode cX6_take 45 = .ok (.bipush 18, 2) := by decide +kernel
theorem dX6_take_47 : decode cX6_take 47 = .ok (.if_icmp .lt 13, 3) := by decide +kernel
theorem dX6_take_50 : decode cX6_take 50 = .ok (.aload_n 0, 1) := by decide +kernel
theorem dX6_take_51 : decode cX6_take 51 = .ok (.iload_n 1, 1) := by decide +kernel
theorem dX6_take_52 : decode cX6_take 52 = .ok (.invokestatic 28, 3) := by decide +kernel
theorem dX6_take_55 : decode cX6_take 55 = .ok (.iconst 2, 1) := by decide +kernel
theorem dX6_take_56 : decode cX6_take 56 = .ok (.invokevirtual 32, 3) := by decide +kernel
theorem dX6_take_59 : decode cX6_take 59 = .ok (.ireturn, 1) := by decide +kernel
theorem dX6_take_60 : decode cX6_take 60 = .ok (.iload_n 1, 1) := by decide +kernel
theorem dX6_take_61 : decode cX6_take 61 = .ok (.bipush 10, 2) := by decide +kernel
theorem dX6_take_63 : decode cX6_take 63 = .ok (.if_icmp .ge 7, 3) := by decide +kernel
theorem dX6_take_66 : decode cX6_take 66 = .ok (.iconst 0, 1) := by decide +kernel
theorem dX6_take_67 : decode cX6_take 67 = .ok (.goto 4, 3) := by decide +kernel
theorem dX6_take_70 : decode cX6_take 70 = .ok (.iconst 1, 1) := by decide +kernel
theorem dX6_take_71 : decode cX6_take 71 = .ok (.istore_n 2, 1) := by decide +kernel
theorem dX6_take_72 : decode cX6_take 72 = .ok (.aload_n 0, 1) := by decide +kernel
theorem dX6_take_73 : decode cX6_take 73 = .ok (.getfield 21, 3) := by decide +kernel
theorem dX6_take_76 : decode cX6_take 76 = .ok (.iload_n 2, 1) := by decide +kernel
theorem dX6_take_77 : decode cX6_take 77 = .ok (.if_icmp .eq 19, 3) := by decide +kernel
theorem dX6_take_80 : decode cX6_take 80 = .ok (.aload_n 0, 1) := by decide +kernel
theorem dX6_take_81 : decode cX6_take 81 = .ok (.iload_n 1, 1) := by decide +kernel
theorem dX6_take_82 : decode cX6_take 82 = .ok (.invokestatic 28, 3) := by decide +kernel
theorem dX6_take_85 : decode cX6_take 85 = .ok (.iload_n 2, 1) := by decide +kernel
theorem dX6_take_86 : decode cX6_take 86 = .ok (.invokevirtual 32, 3) := by decide +kernel
theorem dX6_take_89 : decode cX6_take 89 = .ok (.ifCond .eq 7, 3) := by decide +kernel
theorem dX6_take_92 : decode cX6_take 92 = .ok (.iconst 1, 1) := by decide +kernel
theorem dX6_take_93 : decode cX6_take 93 = .ok (.goto 4, 3) := by decide +kernel
theorem dX6_take_96 : decode cX6_take 96 = .ok (.iconst 0, 1) := by decide +kernel
theorem dX6_take_97 : decode cX6_take 97 = .ok (.ireturn, 1) := by decide +kernel
set_option maxRecDepth 20000 in
theorem ggX6_goBy_X9_isOnFloor : GoodIn wsX6_goBy wsX9_isOnFloor := goodIn_r _ [6] (by decide +kernel) (by decide +kernel)
set_option maxRecDepth 20000 in
theorem gX6_goBy_X9_isOnFloor_n43 : GoodIn wsX6_goBy (wsX9_isOnFloor) := ggX6_goBy_X9_isOnFloor
set_option maxRecDepth 20000 in
theorem ggX6_goBy_X6_set : GoodIn wsX6_goBy wsX6_set := goodIn_r _ [11, 2, 3, 1, 12, 13, 14, 15, 16] (by decide +kernel) (by decide +kernel)
set_option maxRecDepth 20000 in
theorem gX6_goBy_X6_set : GoodIn wsX6_goBy (wsV RX6 24 RX6 yX6_set wsX6_set) := goodIn_app (goodIn_of _ (by decide +kernel)) ggX6_goBy_X6_set
theorem dX6_goBy_0 : decode cX6_goBy 0 = .ok (.aload_n 0, 1) := by decide +kernel
theorem dX6_goBy_1 : decode cX6_goBy 1 = .ok (.getfield 18, 3) := by decide +kernel
theorem dX6_goBy_4 : decode cX6_goBy 4 = .ok (.iload_n 1, 1) := by decide +kernel
theorem dX6_goBy_5 : decode cX6_goBy 5 = .ok (.iadd, 1) := by decide +kernel
theorem dX6_goBy_6 : decode cX6_goBy 6 = .ok (.bipush 7, 2) := by decide +kernel
theorem dX6_goBy_8 : decode cX6_goBy 8 = .ok (.iand, 1) := by decide +kernel
theorem dX6_goBy_9 : decode cX6_goBy 9 = .ok (.istore_n 3, 1) := by decide +kernel
theorem dX6_goBy_10 : decode cX6_goBy 10 = .ok (.aload_n 0, 1) := by decide +kernel
theorem dX6_goBy_11 : decode cX6_goBy 11 = .ok (.getfield 9, 3) := by decide +kernel
theorem dX6_goBy_14 : decode cX6_goBy 14 = .ok (.getstatic 36, 3) := by decide +kernel
theorem dX6_goBy_17 : decode cX6_goBy 17 = .ok (.iload_n 3, 1) := by decide +kernel
theorem dX6_goBy_18 : decode cX6_goBy 18 = .ok (.iaload, 1) := by decide +kernel
theorem dX6_goBy_19 : decode cX6_goBy 19 = .ok (.iadd, 1) := by decide +kernel
theorem dX6_goBy_20 : decode cX6_goBy 20 = .ok (.istore 4, 2) := by decide +kernel
theorem dX6_goBy_22 : decode cX6_goBy 22 = .ok (.aload_n 0, 1) := by decide +kernel
theorem dX6_goBy_23 : decode cX6_goBy 23 = .ok (.getfield 15, 3) := by decide +kernel
theorem dX6_goBy_26 : decode cX6_goBy 26 = .ok (.getstatic 40, 3) := by decide +kernel
theorem dX6_goBy_29 : decode cX6_goBy 29 = .ok (.iload_n 3, 1) := by decide +kernel
theorem dX6_goBy_30 : decode cX6_goBy 30 = .ok (.iaload, 1) := by decide +kernel
theorem dX6_goBy_31 : decode cX6_goBy 31 = .ok (.iadd, 1) := by decide +kernel
theorem dX6_goBy_32 : decode cX6_goBy 32 = .ok (.istore 5, 2) := by decide +kernel
theorem dX6_goBy_34 : decode cX6_goBy 34 = .ok (.iload 4, 2) := by decide +kernel
theorem dX6_goBy_36 : decode cX6_goBy 36 = .ok (.iload 5, 2) := by decide +kernel
theorem dX6_goBy_38 : decode cX6_goBy 38 = .ok (.invokestatic 43, 3) := by decide +kernel
theorem dX6_goBy_41 : decode cX6_goBy 41 = .ok (.ifCond .ne 5, 3) := by decide +kernel
theorem dX6_goBy_44 : decode cX6_goBy 44 = .ok (.iconst 0, 1) := by decide +kernel
theorem dX6_goBy_45 : decode cX6_goBy 45 = .ok (.ireturn, 1) := by decide +kernel
theorem dX6_goBy_46 : decode cX6_goBy 46 = .ok (.aload_n 0, 1) := by decide +kernel
theorem dX6_goBy_47 : decode cX6_goBy 47 = .ok (.iload 4, 2) := by decide +kernel
theorem dX6_goBy_49 : decode cX6_goBy 49 = .ok (.iload 5, 2) := by decide +kernel
theorem dX6_goBy_51 : decode cX6_goBy 51 = .ok (.aload_n 0, 1) := by decide +kernel
theorem dX6_goBy_52 : decode cX6_goBy 52 = .ok (.getfield 18, 3) := by decide +kernel
theorem dX6_goBy_55 : decode cX6_goBy 55 = .ok (.iload_n 2, 1) := by decide +kernel
theorem dX6_goBy_56 : decode cX6_goBy 56 = .ok (.invokevirtual 24, 3) := by decide +kernel
theorem dX6_goBy_59 : decode cX6_goBy 59 = .ok (.iconst 1, 1) := by decide +kernel
theorem dX6_goBy_60 : decode cX6_goBy 60 = .ok (.ireturn, 1) := by decide +kernel
theorem dX6_signsTo_0 : decode cX6_signsTo 0 = .ok (.iload_n 1, 1) := by decide +kernel
theorem dX6_signsTo_1 : decode cX6_signsTo 1 = .ok (.aload_n 0, 1) := by decide +kernel
theorem dX6_signsTo_2 : decode cX6_signsTo 2 = .ok (.getfield 9, 3) := by decide +kernel
theorem dX6_signsTo_5 : decode cX6_signsTo 5 = .ok (.isub, 1) := by decide +kernel
theorem dX6_signsTo_6 : decode cX6_signsTo 6 = .ok (.invokestatic 46, 3) := by decide +kernel
theorem dX6_signsTo_9 : decode cX6_signsTo 9 = .ok (.iload_n 2, 1) := by decide +kernel
theorem dX6_signsTo_10 : decode cX6_signsTo 10 = .ok (.aload_n 0, 1) := by decide +kernel
theorem dX6_signsTo_11 : decode cX6_signsTo 11 = .ok (.getfield 15, 3) := by decide +kernel
theorem dX6_signsTo_14 : decode cX6_signsTo 14 = .ok (.isub, 1) := by decide +kernel
theorem dX6_signsTo_15 : decode cX6_signsTo 15 = .ok (.invokestatic 46, 3) := by decide +kernel
theorem dX6_signsTo_18 : decode cX6_signsTo 18 = .ok (.invokestatic 51, 3) := by decide +kernel
theorem dX6_signsTo_21 : decode cX6_signsTo 21 = .ok (.istore 4, 2) := by decide +kernel
theorem dX6_signsTo_23 : decode cX6_signsTo 23 = .ok (.iload_n 3, 1) := by decide +kernel
theorem dX6_signsTo_24 : decode cX6_signsTo 24 = .ok (.aload_n 0, 1) := by decide +kernel
theorem dX6_signsTo_25 : decode cX6_signsTo 25 = .ok (.getfield 18, 3) := by decide +kernel
theorem dX6_signsTo_28 : decode cX6_signsTo 28 = .ok (.if_icmp .ne 8, 3) := by decide +kernel
theorem dX6_signsTo_31 : decode cX6_signsTo 31 = .ok (.iload 4, 2) := by decide +kernel
theorem dX6_signsTo_33 : decode cX6_signsTo 33 = .ok (.goto 7, 3) := by decide +kernel
theorem dX6_signsTo_36 : decode cX6_signsTo 36 = .ok (.iload 4, 2) := by decide +kernel
theorem dX6_signsTo_38 : decode cX6_signsTo 38 = .ok (.iconst 1, 1) := by decide +kernel
theorem dX6_signsTo_39 : decode cX6_signsTo 39 = .ok (.iadd, 1) := by decide +kernel
theorem dX6_signsTo_40 : decode cX6_signsTo 40 = .ok (.ireturn, 1) := by decide +kernel
theorem dX7_init_0 : decode cX7_init 0 = .ok (.aload_n 0, 1) := by decide +kernel
theorem dX7_init_1 : decode cX7_init 1 = .ok (.invokespecial 3, 3) := by decide +kernel
theorem dX7_init_4 : decode cX7_init 4 = .ok (.aload_n 0, 1) := by decide +kernel
theorem dX7_init_5 : decode cX7_init 5 = .ok (.bipush 100, 2) := by decide +kernel
theorem dX7_init_7 : decode cX7_init 7 = .ok (.newarray .int, 2) := by decide +kernel
theorem dX7_init_9 : decode cX7_init 9 = .ok (.putfield 9, 3) := by decide +kernel
theorem dX7_init_12 : decode cX7_init 12 = .ok (.aload_n 0, 1) := by decide +kernel
theorem dX7_init_13 : decode cX7_init 13 = .ok (.iconst 0, 1) := by decide +kernel
theorem dX7_init_14 : decode cX7_init 14 = .ok (.putfield 15, 3) := by decide +kernel
theorem dX7_init_17 : decode cX7_init 17 = .ok (.return_, 1) := by decide +kernel
theorem dX7_length_0 : decode cX7_length 0 = .ok (.aload_n 0, 1) := by decide +kernel
theorem dX7_length_1 : decode cX7_length 1 = .ok (.getfield 15, 3) := by decide +kernel
theorem dX7_length_4 : decode cX7_length 4 = .ok (.ireturn, 1) := by decide +kernel
theorem dX7_letterAt_0 : decode cX7_letterAt 0 = .ok (.iload_n 1, 1) := by decide +kernel
theorem dX7_letterAt_1 : decode cX7_letterAt 1 = .ok (.ifCond .lt 20, 3) := by decide +kernel
theorem dX7_letterAt_4 : decode cX7_letterAt 4 = .ok (.iload_n 1, 1) := by decide +kernel
theorem dX7_letterAt_5 : decode cX7_letterAt 5 = .ok (.aload_n 0, 1) := by decide +kernel
theorem dX7_letterAt_6 : decode cX7_letterAt 6 = .ok (.getfield 15, 3) := by decide +kernel
theorem dX7_letterAt_9 : decode cX7_letterAt 9 = .ok (.if_icmp .ge 12, 3) := by decide +kernel
theorem dX7_letterAt_12 : decode cX7_letterAt 12 = .ok (.aload_n 0, 1) := by decide +kernel
theorem dX7_letterAt_13 : decode cX7_letterAt 13 = .ok (.getfield 9, 3) := by decide +kernel
theorem dX7_letterAt_16 : decode cX7_letterAt 16 = .ok (.iload_n 1, 1) := by decide +kernel
theorem dX7_letterAt_17 : decode cX7_letterAt 17 = .ok (.iaload, 1) := by decide +kernel
theorem dX7_letterAt_18 : decode cX7_letterAt 18 = .ok (.goto 5, 3) := by decide +kernel
theorem dX7_letterAt_21 : decode cX7_letterAt 21 = .ok (.bipush (-9), 2) := by decide +kernel
theorem dX7_letterAt_23 : decode cX7_letterAt 23 = .ok (.ireturn, 1) := by decide +kernel
theorem dX7_append_0 : decode cX7_append 0 = .ok (.aload_n 0, 1) := by decide +kernel
theorem dX7_append_1 : decode cX7_append 1 = .ok (.getfield 15, 3) := by decide +kernel
theorem dX7_append_4 : decode cX7_append 4 = .ok (.bipush 100, 2) := by decide +kernel
theorem dX7_append_6 : decode cX7_append 6 = .ok (.if_icmp .lt 5, 3) := by decide +kernel
theorem dX7_append_9 : decode cX7_append 9 = .ok (.iconst 0, 1) := by decide +kernel
theorem dX7_append_10 : decode cX7_append 10 = .ok (.ireturn, 1) := by decide +kernel
theorem dX7_append_11 : decode cX7_append 11 = .ok (.aload_n 0, 1) := by decide +kernel
theorem dX7_append_12 : decode cX7_append 12 = .ok (.getfield 9, 3) := by decide +kernel
theorem dX7_append_15 : decode cX7_append 15 = .ok (.aload_n 0, 1) := by decide +kernel
theorem dX7_append_16 : decode cX7_append 16 = .ok (.getfield 15, 3) := by decide +kernel
theorem dX7_append_19 : decode cX7_append 19 = .ok (.iload_n 1, 1) := by decide +kernel
theorem dX7_append_20 : decode cX7_append 20 = .ok (.iastore, 1) := by decide +kernel
theorem dX7_append_21 : decode cX7_append 21 = .ok (.aload_n 0, 1) := by decide +kernel
theorem dX7_append_22 : decode cX7_append 22 = .ok (.dup, 1) := by decide +kernel
theorem dX7_append_23 : decode cX7_append 23 = .ok (.getfield 15, 3) := by decide +kernel
theorem dX7_append_26 : decode cX7_append 26 = .ok (.iconst 1, 1) := by decide +kernel
theorem dX7_append_27 : decode cX7_append 27 = .ok (.iadd, 1) := by decide +kernel
theorem dX7_append_28 : decode cX7_append 28 = .ok (.putfield 15, 3) := by decide +kernel
theorem dX7_append_31 : decode cX7_append 31 = .ok (.iconst 1, 1) := by decide +kernel
theorem dX7_append_32 : decode cX7_append 32 = .ok (.ireturn, 1) := by decide +kernel
theorem dX7_empty_0 : decode cX7_empty 0 = .ok (.aload_n 0, 1) := by decide +kernel
theorem dX7_empty_1 : decode cX7_empty 1 = .ok (.iconst 0, 1) := by decide +kernel
theorem dX7_empty_2 : decode cX7_empty 2 = .ok (.putfield 15, 3) := by decide +kernel
theorem dX7_empty_5 : decode cX7_empty 5 = .ok (.return_, 1) := by decide +kernel
set_option maxRecDepth 20000 in
theorem ggX8_init_X5_init : GoodIn wsX8_init wsX5_init := goodIn_r _ [14, 15, 2, 3, 4, 16, 17, 23, 24] (by decide +kernel) (by decide +kernel)
set_option maxRecDepth 20000 in
theorem gX8_init_X5_init_n23 : GoodIn wsX8_init (wsX5_init) := ggX8_init_X5_init
theorem dX8_init_0 : decode cX8_init 0 = .ok (.aload_n 0, 1) := by decide +kernel
theorem dX8_init_1 : decode cX8_init 1 = .ok (.invokespecial 3, 3) := by decide +kernel
theorem dX8_init_4 : decode cX8_init 4 = .ok (.aload_n 0, 1) := by decide +kernel
theorem dX8_init_5 : decode cX8_init 5 = .ok (.iconst 3, 1) := by decide +kernel
theorem dX8_init_6 : decode cX8_init 6 = .ok (.newarray .int, 2) := by decide +kernel
theorem dX8_init_8 : decode cX8_init 8 = .ok (.putfield 9, 3) := by decide +kernel
theorem dX8_init_11 : decode cX8_init 11 = .ok (.aload_n 0, 1) := by decide +kernel
theorem dX8_init_12 : decode cX8_init 12 = .ok (.iconst 3, 1) := by decide +kernel
theorem dX8_init_13 : decode cX8_init 13 = .ok (.newarray .int, 2) := by decide +kernel
theorem dX8_init_15 : decode cX8_init 15 = .ok (.putfield 15, 3) := by decide +kernel
theorem dX8_init_18 : decode cX8_init 18 = .ok (.aload_n 0, 1) := by decide +kernel
theorem dX8_init_19 : decode cX8_init 19 = .ok (.iconst 3, 1) := by decide +kernel
theorem dX8_init_20 : decode cX8_init 20 = .ok (.newarray .int, 2) := by decide +kernel
theorem dX8_init_22 : decode cX8_init 22 = .ok (.putfield 18, 3) := by decide +kernel
theorem dX8_init_25 : decode cX8_init 25 = .ok (.aload_n 0, 1) := by decide +kernel
theorem dX8_init_26 : decode cX8_init 26 = .ok (.new 21, 3) := by decide +kernel
theorem dX8_init_29 : decode cX8_init 29 = .ok (.dup, 1) := by decide +kernel
theorem dX8_init_30 : decode cX8_init 30 = .ok (.invokespecial 23, 3) := by decide +kernel
theorem dX8_init_33 : decode cX8_init 33 = .ok (.putfield 24, 3) := by decide +kernel
theorem dX8_init_36 : decode cX8_init 36 = .ok (.aload_n 0, 1) := by decide +kernel
theorem dX8_init_37 : decode cX8_init 37 = .ok (.iconst 0, 1) := by decide +kernel
theorem dX8_init_38 : decode cX8_init 38 = .ok (.putfield 28, 3) := by decide +kernel
theorem dX8_init_41 : decode cX8_init 41 = .ok (.return_, 1) := by decide +kernel
set_option maxRecDepth 20000 in
theorem ggX8_empty_X5_empty : GoodIn wsX8_empty wsX5_empty := goodIn_r _ [7, 8, 14, 15] (by decide +kernel) (by decide +kernel)
set_option maxRecDepth 20000 in
theorem gX8_empty_X5_empty : GoodIn wsX8_empty (wsV RX8 32 RX5 yX5_empty wsX5_empty) := goodIn_app (goodIn_of _ (by decide +kernel)) ggX8_empty_X5_empty
theorem dX8_empty_0 : decode cX8_empty 0 = .ok (.aload_n 0, 1) := by decide +kernel
theorem dX8_empty_1 : decode cX8_empty 1 = .ok (.iconst 0, 1) := by decide +kernel
theorem dX8_empty_2 : decode cX8_empty 2 = .ok (.putfield 28, 3) := by decide +kernel
theorem dX8_empty_5 : decode cX8_empty 5 = .ok (.aload_n 0, 1) := by decide +kernel
theorem dX8_empty_6 : decode cX8_empty 6 = .ok (.getfield 24, 3) := by decide +kernel
theorem dX8_empty_9 : decode cX8_empty 9 = .ok (.invokevirtual 32, 3) := by decide +kernel
theorem dX8_empty_12 : decode cX8_empty 12 = .ok (.return_, 1) := by decide +kernel
theorem dX8_add_0 : decode cX8_add 0 = .ok (.aload_n 0, 1) := by decide +kernel
theorem dX8_add_1 : decode cX8_add 1 = .ok (.getfield 28, 3) := by decide +kernel
theorem dX8_add_4 : decode cX8_add 4 = .ok (.iconst 3, 1) := by decide +kernel
theorem dX8_add_5 : decode cX8_add 5 = .ok (.if_icmp .lt 4, 3) := by decide +kernel
theorem dX8_add_8 : decode cX8_add 8 = .ok (.return_, 1) := by decide +kernel
theorem dX8_add_9 : decode cX8_add 9 = .ok (.aload_n 0, 1) := by decide +kernel
theorem dX8_add_10 : decode cX8_add 10 = .ok (.getfield 9, 3) := by decide +kernel
theorem dX8_add_13 : decode cX8_add 13 = .ok (.aload_n 0, 1) := by decide +kernel
theorem dX8_add_14 : decode cX8_add 14 = .ok (.getfield 28, 3) := by decide +kernel
theorem dX8_add_17 : decode cX8_add 17 = .ok (.iload_n 1, 1) := by decide +kernel
theorem dX8_add_18 : decode cX8_add 18 = .ok (.iastore, 1) := by decide +kernel
theorem dX8_add_19 : decode cX8_add 19 = .ok (.aload_n 0, 1) := by decide +kernel
theorem dX8_add_20 : decode cX8_add 20 = .ok (.getfield 15, 3) := by decide +kernel
theorem dX8_add_23 : decode cX8_add 23 = .ok (.aload_n 0, 1) := by decide +kernel
theorem dX8_add_24 : decode cX8_add 24 = .ok (.getfield 28, 3) := by decide +kernel
theorem dX8_add_27 : decode cX8_add 27 = .ok (.iload_n 2, 1) := by decide +kernel
theorem dX8_add_28 : decode cX8_add 28 = .ok (.iastore, 1) := by decide +kernel
theorem dX8_add_29 : decode cX8_add 29 = .ok (.aload_n 0, 1) := by decide +kernel
theorem dX8_add_30 : decode cX8_add 30 = .ok (.getfield 18, 3) := by decide +kernel
theorem dX8_add_33 : decode cX8_add 33 = .ok (.aload_n 0, 1) := by decide +kernel
theorem dX8_add_34 : decode cX8_add 34 = .ok (.getfield 28, 3) := by decide +kernel
theorem dX8_add_37 : decode cX8_add 37 = .ok (.iload_n 3, 1) := by decide +kernel
theorem dX8_add_38 : decode cX8_add 38 = .ok (.iastore, 1) := by decide +kernel
theorem dX8_add_39 : decode cX8_add 39 = .ok (.aload_n 0, 1) := by decide +kernel
theorem dX8_add_40 : decode cX8_add 40 = .ok (.dup, 1) := by decide +kernel
theorem dX8_add_41 : decode cX8_add 41 = .ok (.getfield 28, 3) := by decide +kernel
theorem dX8_add_44 : decode cX8_add 44 = .ok (.iconst 1, 1) := by decide +kernel
theorem dX8_add_45 : decode cX8_add 45 = .ok (.iadd, 1) := by decide +kernel
theorem dX8_add_46 : decode cX8_add 46 = .ok (.putfield 28, 3) := by decide +kernel
theorem dX8_add_49 : decode cX8_add 49 = .ok (.return_, 1) := by decide +kernel
set_option maxRecDepth 20000 in
theorem ggX8_bringToBegin_X6_set : GoodIn wsX8_bringToBegin wsX6_set := goodIn_r _ [9, 10, 11, 12, 13, 19, 20, 21, 22] (by decide +kernel) (by decide +kernel)
set_option maxRecDepth 20000 in
theorem gX8_bringToBegin_X6_set : GoodIn wsX8_bringToBegin (wsV RX8 35 RX6 yX6_set wsX6_set) := goodIn_app (goodIn_of _ (by decide +kernel)) ggX8_bringToBegin_X6_set
theorem dX8_bringToBegin_0 : decode cX8_bringToBegin 0 = .ok (.iload_n 2, 1) := by decide +kernel
theorem dX8_bringToBegin_1 : decode cX8_bringToBegin 1 = .ok (.ifCond .lt 11, 3) := by decide +kernel
theorem dX8_bringToBegin_4 : decode cX8_bringToBegin 4 = .ok (.iload_n 2, 1) := by decide +kernel
theorem dX8_bringToBegin_5 : decode cX8_bringToBegin 5 = .ok (.aload_n 0, 1) := by decide +kernel
theorem dX8_bringToBegin_6 : decode cX8_bringToBegin 6 = .ok (.getfield 28, 3) := by decide +kernel
theorem dX8_bringToBegin_9 : decode cX8_bringToBegin 9 = .ok (.if_icmp .lt 4, 3) := by decide +kernel
theorem dX8_bringToBegin_12 : decode cX8_bringToBegin 12 = .ok (.return_, 1) := by decide +kernel
theorem dX8_bringToBegin_13 : decode cX8_bringToBegin 13 = .ok (.aload_n 1, 1) := by decide +kernel
theorem dX8_bringToBegin_14 : decode cX8_bringToBegin 14 = .ok (.aload_n 0, 1) := by decide +kernel
theorem dX8_bringToBegin_15 : decode cX8_bringToBegin 15 = .ok (.getfield 9, 3) := by decide +kernel
theorem dX8_bringToBegin_18 : decode cX8_bringToBegin 18 = .ok (.iload_n 2, 1) := by decide +kernel
theorem dX8_bringToBegin_19 : decode cX8_bringToBegin 19 = .ok (.iaload, 1) := by decide +kernel
theorem dX8_bringToBegin_20 : decode cX8_bringToBegin 20 = .ok (.aload_n 0, 1) := by decide +kernel
theorem dX8_bringToBegin_21 : decode cX8_bringToBegin 21 = .ok (.getfield 15, 3) := by decide +kernel
theorem dX8_bringToBegin_24 : decode cX8_bringToBegin 24 = .ok (.iload_n 2, 1) := by decide +kernel
theorem dX8_bringToBegin_25 : decode cX8_bringToBegin 25 = .ok (.iaload, 1) := by decide +kernel
theorem dX8_bringToBegin_26 : decode cX8_bringToBegin 26 = .ok (.aload_n 0, 1) := by decide +kernel
theorem dX8_bringToBegin_27 : decode cX8_bringToBegin 27 = .ok (.getfield 18, 3) := by decide +kernel
theorem dX8_bringToBegin_30 : decode cX8_bringToBegin 30 = .ok (.iload_n 2, 1) := by decide +kernel
theorem dX8_bringToBegin_31 : decode cX8_bringToBegin 31 = .ok (.iaload, 1) := by decide +kernel
theorem dX8_bringToBegin_32 : decode cX8_bringToBegin 32 = .ok (.iconst 2, 1) := by decide +kernel
theorem dX8_bringToBegin_33 : decode cX8_bringToBegin 33 = .ok (.invokevirtual 35, 3) := by decide +kernel
theorem dX8_bringToBegin_36 : decode cX8_bringToBegin 36 = .ok (.return_, 1) := by decide +kernel
set_option maxRecDepth 20000 in
theorem ggX9_init_X7_init : GoodIn wsX9_init wsX7_init := goodIn_r _ [43, 44, 2, 3, 45, 46, 47, 100, 101] (by decide +kernel) (by decide +kernel)
set_option maxRecDepth 20000 in
theorem gX9_init_X7_init_n9 : GoodIn wsX9_init (wsX7_init) := ggX9_init_X7_init
set_option maxRecDepth 20000 in
theorem ggX9_init_X3_init : GoodIn wsX9_init wsX3_init := goodIn_r _ [49, 50, 2, 3] (by decide +kernel) (by decide +kernel)
set_option maxRecDepth 20000 in
theorem gX9_init_X3_init_n18 : GoodIn wsX9_init (wsX3_init) := ggX9_init_X3_init
set_option maxRecDepth 20000 in
theorem ggX9_init_X8_init : GoodIn wsX9_init wsX8_init := goodIn_r _ [52, 53, 2, 3, 45, 54, 55, 56, 57, 58, 59, 60, 61, 62, 63, 64, 65, 66, 118, 119, 120, 121, 122, 144, 145] (by decide +kernel) (by decide +kernel)
set_option maxRecDepth 20000 in
theorem gX9_init_X8_init_n25 : GoodIn wsX9_init (wsX8_init) := ggX9_init_X8_init
set_option maxRecDepth 20000 in
theorem ggX9_init_X1_init : GoodIn wsX9_init wsX1_init := goodIn_r _ [68, 69, 2, 3, 45, 70, 71, 72, 73, 74, 123, 124, 125, 126, 127] (by decide +kernel) (by decide +kernel)
set_option maxRecDepth 20000 in
theorem gX9_init_X1_init_n35 : GoodIn wsX9_init (wsX1_init) := ggX9_init_X1_init
set_option maxRecDepth 20000 in
theorem ggX9_init_X4_init : GoodIn wsX9_init wsX4_init := goodIn_r _ [76, 77, 2, 3, 45, 78, 79, 80, 81, 128, 129, 130, 131] (by decide +kernel) (by decide +kernel)
set_option maxRecDepth 20000 in
theorem gX9_init_X4_init_n42 : GoodIn wsX9_init (wsX4_init) := ggX9_init_X4_init
set_option maxRecDepth 20000 in
theorem ggX9_init_X2_init : GoodIn wsX9_init wsX2_init := goodIn_r _ [83, 84, 2, 3, 85, 58, 59, 86, 87, 62, 63, 64, 45, 65, 66, 144, 145, 132, 133] (by decide +kernel) (by decide +kernel)
set_option maxRecDepth 20000 in
theorem gX9_init_X2_init_n49 : GoodIn wsX9_init (wsX2_init) := ggX9_init_X2_init
set_option maxRecDepth 20000 in
theorem ggX9_init_X0_init : GoodIn wsX9_init wsX0_init := goodIn_r _ [89, 90, 2, 3, 45, 91, 92, 93, 94, 95, 36, 37, 96, 97, 98, 99, 134, 135, 136, 137, 138, 139, 140, 141, 142, 143] (by decide +kernel) (by decide +kernel)
set_option maxRecDepth 20000 in
theorem gX9_init_X0_init_n59 : GoodIn wsX9_init (wsX0_init) := ggX9_init_X0_init
set_option maxRecDepth 20000 in
theorem ggX9_init_X6_init : GoodIn wsX9_init wsX6_init := goodIn_r _ [98, 99, 2, 3] (by decide +kernel) (by decide +kernel)
set_option maxRecDepth 20000 in
theorem gX9_init_X6_init_n69 : GoodIn wsX9_init (wsX6_init) := ggX9_init_X6_init
theorem dX9_init_0 : decode cX9_init 0 = .ok (.aload_n 0, 1) := by decide +kernel
theorem dX9_init_1 : decode cX9_init 1 = .ok (.invokespecial 1, 3) := by decide +kernel
theorem dX9_init_4 : decode cX9_init 4 = .ok (.aload_n 0, 1) := by decide +kernel
theorem dX9_init_5 : decode cX9_init 5 = .ok (.new 7, 3) := by decide +kernel
theorem dX9_init_8 : decode cX9_init 8 = .ok (.dup, 1) := by decide +kernel
theorem dX9_init_9 : decode cX9_init 9 = .ok (.invokespecial 9, 3) := by decide +kernel
theorem dX9_init_12 : decode cX9_init 12 = .ok (.putfield 10, 3) := by decide +kernel
theorem dX9_init_15 : decode cX9_init 15 = .ok (.aload_n 0, 1) := by decide +kernel
theorem dX9_init_16 : decode cX9_init 16 = .ok (.new 16, 3) := by decide +kernel
theorem dX9_init_19 : decode cX9_init 19 = .ok (.dup, 1) := by decide +kernel
theorem dX9_init_20 : decode cX9_init 20 = .ok (.invokespecial 18, 3) := by decide +kernel
theorem dX9_init_23 : decode cX9_init 23 = .ok (.putfield 19, 3) := by decide +kernel
theorem dX9_init_26 : decode cX9_init 26 = .ok (.aload_n 0, 1) := by decide +kernel
theorem dX9_init_27 : decode cX9_init 27 = .ok (.new 23, 3) := by decide +kernel
theorem dX9_init_30 : decode cX9_init 30 = .ok (.dup, 1) := by decide +kernel
theorem dX9_init_31 : decode cX9_init 31 = .ok (.invokespecial 25, 3) := by decide +kernel
theorem dX9_init_34 : decode cX9_init 34 = .ok (.putfield 26, 3) := by decide +kernel
theorem dX9_init_37 : decode cX9_init 37 = .ok (.aload_n 0, 1) := by decide +kernel
theorem dX9_init_38 : decode cX9_init 38 = .ok (.new 23, 3) := by decide +kernel
theorem dX9_init_41 : decode cX9_init 41 = .ok (.dup, 1) := by decide +kernel
theorem dX9_init_42 : decode cX9_init 42 = .ok (.invokespecial 25, 3) := by decide +kernel
theorem dX9_init_45 : decode cX9_init 45 = .ok (.putfield 30, 3) := by decide +kernel
theorem dX9_init_48 : decode cX9_init 48 = .ok (.aload_n 0, 1) := by decide +kernel
theorem dX9_init_49 : decode cX9_init 49 = .ok (.new 33, 3) := by decide +kernel
theorem dX9_init_52 : decode cX9_init 52 = .ok (.dup, 1) := by decide +kernel
theorem dX9_init_53 : decode cX9_init 53 = .ok (.invokespecial 35, 3) := by decide +kernel
theorem dX9_init_56 : decode cX9_init 56 = .ok (.putfield 36, 3) := by decide +kernel
theorem dX9_init_59 : decode cX9_init 59 = .ok (.aload_n 0, 1) := by decide +kernel
theorem dX9_init_60 : decode cX9_init 60 = .ok (.new 40, 3) := by decide +kernel
theorem dX9_init_63 : decode cX9_init 63 = .ok (.dup, 1) := by decide +kernel
theorem dX9_init_64 : decode cX9_init 64 = .ok (.invokespecial 42, 3) := by decide +kernel
theorem dX9_init_67 : decode cX9_init 67 = .ok (.putfield 43, 3) := by decide +kernel
theorem dX9_init_70 : decode cX9_init 70 = .ok (.aload_n 0, 1) := by decide +kernel
theorem dX9_init_71 : decode cX9_init 71 = .ok (.new 47, 3) := by decide +kernel
theorem dX9_init_74 : decode cX9_init 74 = .ok (.dup, 1) := by decide +kernel
theorem dX9_init_75 : decode cX9_init 75 = .ok (.invokespecial 49, 3) := by decide +kernel
theorem dX9_init_78 : decode cX9_init 78 = .ok (.putfield 50, 3) := by decide +kernel
theorem dX9_init_81 : decode cX9_init 81 = .ok (.aload_n 0, 1) := by decide +kernel
theorem dX9_init_82 : decode cX9_init 82 = .ok (.new 47, 3) := by decide +kernel
theorem dX9_init_85 : decode cX9_init 85 = .ok (.dup, 1) := by decide +kernel
theorem dX9_init_86 : decode cX9_init 86 = .ok (.invokespecial 49, 3) := by decide +kernel
theorem dX9_init_89 : decode cX9_init 89 = .ok (.putfield 54, 3) := by decide +kernel
theorem dX9_init_92 : decode cX9_init 92 = .ok (.aload_n 0, 1) := by decide +kernel
theorem dX9_init_93 : decode cX9_init 93 = .ok (.new 57, 3) := by decide +kernel
theorem dX9_init_96 : decode cX9_init 96 = .ok (.dup, 1) := by decide +kernel
theorem dX9_init_97 : decode cX9_init 97 = .ok (.invokespecial 59, 3) := by decide +kernel
theorem dX9_init_100 : decode cX9_init 100 = .ok (.putfield 60, 3) := by decide +kernel
theorem dX9_init_103 : decode cX9_init 103 = .ok (.aload_n 0, 1) := by decide +kernel
theorem dX9_init_104 : decode cX9_init 104 = .ok (.new 57, 3) := by decide +kernel
theorem dX9_init_107 : decode cX9_init 107 = .ok (.dup, 1) := by decide +kernel
theorem dX9_init_108 : decode cX9_init 108 = .ok (.invokespecial 59, 3) := by decide +kernel
theorem dX9_init_111 : decode cX9_init 111 = .ok (.putfield 64, 3) := by decide +kernel
theorem dX9_init_114 : decode cX9_init 114 = .ok (.aload_n 0, 1) := by decide +kernel
theorem dX9_init_115 : decode cX9_init 115 = .ok (.new 67, 3) := by decide +kernel
theorem dX9_init_118 : decode cX9_init 118 = .ok (.dup, 1) := by decide +kernel
theorem dX9_init_119 : decode cX9_init 119 = .ok (.invokespecial 69, 3) := by decide +kernel
theorem dX9_init_122 : decode cX9_init 122 = .ok (.putfield 70, 3) := by decide +kernel
theorem dX9_init_125 : decode cX9_init 125 = .ok (.aload_n 0, 1) := by decide +kernel
theorem dX9_init_126 : decode cX9_init 126 = .ok (.new 67, 3) := by decide +kernel
theorem dX9_init_129 : decode cX9_init 129 = .ok (.dup, 1) := by decide +kernel
theorem dX9_init_130 : decode cX9_init 130 = .ok (.invokespecial 69, 3) := by decide +kernel
theorem dX9_init_133 : decode cX9_init 133 = .ok (.putfield 74, 3) := by decide +kernel
theorem dX9_init_136 : decode cX9_init 136 = .ok (.aload_n 0, 1) := by decide +kernel
theorem dX9_init_137 : decode cX9_init 137 = .ok (.bipush 11, 2) := by decide +kernel
theorem dX9_init_139 : decode cX9_init 139 = .ok (.newarray .long, 2) := by decide +kernel
theorem dX9_init_141 : decode cX9_init 141 = .ok (.putfield 77, 3) := by decide +kernel
theorem dX9_init_144 : decode cX9_init 144 = .ok (.return_, 1) := by decide +kernel
set_option maxRecDepth 20000 in
theorem ggX9_type_X7_append : GoodIn wsX9_type wsX7_append := goodIn_r _ [6, 7, 8, 26, 27] (by decide +kernel) (by decide +kernel)
set_option maxRecDepth 20000 in
theorem gX9_type_X7_append : GoodIn wsX9_type (wsV RX9 81 RX7 yX7_append wsX7_append) := goodIn_app (goodIn_of _ (by decide +kernel)) ggX9_type_X7_append
set_option maxRecDepth 20000 in
theorem ggX9_type_X7_length : GoodIn wsX9_type wsX7_length := goodIn_r _ [12, 7, 26, 27] (by decide +kernel) (by decide +kernel)
set_option maxRecDepth 20000 in
theorem gX9_type_X7_length : GoodIn wsX9_type (wsV RX9 85 RX7 yX7_length wsX7_length) := goodIn_app (goodIn_of _ (by decide +kernel)) ggX9_type_X7_length
theorem dX9_type_0 : decode cX9_type 0 = .ok (.iload_n 1, 1) := by decide +kernel
theorem dX9_type_1 : decode cX9_type 1 = .ok (.ifCond .lt 10, 3) := by decide +kernel
theorem dX9_type_4 : decode cX9_type 4 = .ok (.iload_n 1, 1) := by decide +kernel
theorem dX9_type_5 : decode cX9_type 5 = .ok (.sipush 255, 3) := by decide +kernel
theorem dX9_type_8 : decode cX9_type 8 = .ok (.if_icmp .le 5, 3) := by decide +kernel
theorem dX9_type_11 : decode cX9_type 11 = .ok (.iconst (-1), 1) := by decide +kernel
theorem dX9_type_12 : decode cX9_type 12 = .ok (.ireturn, 1) := by decide +kernel
theorem dX9_type_13 : decode cX9_type 13 = .ok (.aload_n 0, 1) := by decide +kernel
theorem dX9_type_14 : decode cX9_type 14 = .ok (.getfield 10, 3) := by decide +kernel
theorem dX9_type_17 : decode cX9_type 17 = .ok (.iload_n 1, 1) := by decide +kernel
theorem dX9_type_18 : decode cX9_type 18 = .ok (.invokevirtual 81, 3) := by decide +kernel
theorem dX9_type_21 : decode cX9_type 21 = .ok (.ifCond .eq 13, 3) := by decide +kernel
theorem dX9_type_24 : decode cX9_type 24 = .ok (.aload_n 0, 1) := by decide +kernel
theorem dX9_type_25 : decode cX9_type 25 = .ok (.getfield 10, 3) := by decide +kernel
theorem dX9_type_28 : decode cX9_type 28 = .ok (.invokevirtual 85, 3) := by decide +kernel
theorem dX9_type_31 : decode cX9_type 31 = .ok (.goto 5, 3) := by decide +kernel
theorem dX9_type_34 : decode cX9_type 34 = .ok (.bipush (-3), 2) := by decide +kernel
theorem dX9_type_36 : decode cX9_type 36 = .ok (.ireturn, 1) := by decide +kernel
set_option maxRecDepth 20000 in
theorem ggX9_clear_X7_length : GoodIn wsX9_clear wsX7_length := goodIn_r _ [6, 7, 25, 26] (by decide +kernel) (by decide +kernel)
set_option maxRecDepth 20000 in
theorem gX9_clear_X7_length : GoodIn wsX9_clear (wsV RX9 85 RX7 yX7_length wsX7_length) := goodIn_app (goodIn_of _ (by decide +kernel)) ggX9_clear_X7_length
set_option maxRecDepth 20000 in
theorem ggX9_clear_X7_empty : GoodIn wsX9_clear wsX7_empty := goodIn_r _ [11, 7, 25, 26] (by decide +kernel) (by decide +kernel)
set_option maxRecDepth 20000 in
theorem gX9_clear_X7_empty : GoodIn wsX9_clear (wsV RX9 89 RX7 yX7_empty wsX7_empty) := goodIn_app (goodIn_of _ (by decide +kernel)) ggX9_clear_X7_empty
theorem dX9_clear_0 : decode cX9_clear 0 = .ok (.aload_n 0, 1) := by decide +kernel
theorem dX9_clear_1 : decode cX9_clear 1 = .ok (.getfield 10, 3) := by decide +kernel
theorem dX9_clear_4 : decode cX9_clear 4 = .ok (.invokevirtual 85, 3) := by decide +kernel
theorem dX9_clear_7 : decode cX9_clear 7 = .ok (.istore_n 1, 1) := by decide +kernel
theorem dX9_clear_8 : decode cX9_clear 8 = .ok (.aload_n 0, 1) := by decide +kernel
theorem dX9_clear_9 : decode cX9_clear 9 = .ok (.getfield 10, 3) := by decide +kernel
theorem dX9_clear_12 : decode cX9_clear 12 = .ok (.invokevirtual 89, 3) := by decide +kernel
theorem dX9_clear_15 : decode cX9_clear 15 = .ok (.iload_n 1, 1) := by decide +kernel
theorem dX9_clear_16 : decode cX9_clear 16 = .ok (.ireturn, 1) := by decide +kernel
set_option maxRecDepth 20000 in
theorem ggX9_dance_X3_read : GoodIn wsX9_dance wsX3_read := goodIn_r _ [13, 14, 15, 16, 17, 18, 19, 20, 21, 22, 23, 24, 25, 26, 27, 28, 29, 30, 31, 32, 12, 33, 34, 35, 36, 37, 38, 39, 40, 41, 42, 43, 44, 45, 46, 47, 48, 49, 50, 51, 52, 53, 54, 55, 56, 57, 58, 59, 60, 61, 62, 63, 64, 65, 66, 67, 68, 69, 70, 71, 72, 73, 74, 75, 76, 77, 78, 79, 80, 81, 82, 83, 84, 85, 121, 122, 123, 124, 125, 126, 127, 128, 129, 130, 131, 132] (by decide +kernel) (by decide +kernel)
set_option maxRecDepth 20000 in
theorem gX9_dance_X3_read : GoodIn wsX9_dance (wsV RX9 92 RX3 yX3_read wsX3_read) := goodIn_app (goodIn_of _ (by decide +kernel)) ggX9_dance_X3_read
set_option maxRecDepth 20000 in
theorem ggX9_dance_X7_empty : GoodIn wsX9_dance wsX7_empty := goodIn_r _ [89, 39, 131, 132] (by decide +kernel) (by decide +kernel)
set_option maxRecDepth 20000 in
theorem gX9_dance_X7_empty : GoodIn wsX9_dance (wsV RX9 89 RX7 yX7_empty wsX7_empty) := goodIn_app (goodIn_of _ (by decide +kernel)) ggX9_dance_X7_empty
set_option maxRecDepth 20000 in
theorem ggX9_dance_X1_empty : GoodIn wsX9_dance wsX1_empty := goodIn_r _ [94, 95, 133, 134, 135, 136, 137] (by decide +kernel) (by decide +kernel)
set_option maxRecDepth 20000 in
theorem gX9_dance_X1_empty : GoodIn wsX9_dance (wsV RX9 96 RX1 yX1_empty wsX1_empty) := goodIn_app (goodIn_of _ (by decide +kernel)) ggX9_dance_X1_empty
set_option maxRecDepth 20000 in
theorem ggX9_dance_X4_empty : GoodIn wsX9_dance wsX4_empty := goodIn_r _ [100, 101, 138, 139, 140, 141] (by decide +kernel) (by decide +kernel)
set_option maxRecDepth 20000 in
theorem gX9_dance_X4_empty : GoodIn wsX9_dance (wsV RX9 97 RX4 yX4_empty wsX4_empty) := goodIn_app (goodIn_of _ (by decide +kernel)) ggX9_dance_X4_empty
set_option maxRecDepth 20000 in
theorem ggX9_dance_X2_drop : GoodIn wsX9_dance wsX2_drop := goodIn_r _ [106, 107, 142, 143] (by decide +kernel) (by decide +kernel)
set_option maxRecDepth 20000 in
theorem gX9_dance_X2_drop : GoodIn wsX9_dance (wsV RX9 98 RX2 yX2_drop wsX2_drop) := goodIn_app (goodIn_of _ (by decide +kernel)) ggX9_dance_X2_drop
theorem dX9_dance_0 : decode cX9_dance 0 = .ok (.aload_n 0, 1) := by decide +kernel
theorem dX9_dance_1 : decode cX9_dance 1 = .ok (.getfield 19, 3) := by decide +kernel
theorem dX9_dance_4 : decode cX9_dance 4 = .ok (.aload_n 0, 1) := by decide +kernel
theorem dX9_dance_5 : decode cX9_dance 5 = .ok (.getfield 10, 3) := by decide +kernel
theorem dX9_dance_8 : decode cX9_dance 8 = .ok (.aload_n 0, 1) := by decide +kernel
theorem dX9_dance_9 : decode cX9_dance 9 = .ok (.getfield 30, 3) := by decide +kernel
theorem dX9_dance_12 : decode cX9_dance 12 = .ok (.invokevirtual 92, 3) := by decide +kernel
theorem dX9_dance_15 : decode cX9_dance 15 = .ok (.istore_n 1, 1) := by decide +kernel
theorem dX9_dance_16 : decode cX9_dance 16 = .ok (.iload_n 1, 1) := by decide +kernel
theorem dX9_dance_17 : decode cX9_dance 17 = .ok (.ifCond .ge 5, 3) := by decide +kernel
theorem dX9_dance_20 : decode cX9_dance 20 = .ok (.iload_n 1, 1) := by decide +kernel
theorem dX9_dance_21 : decode cX9_dance 21 = .ok (.ireturn, 1) := by decide +kernel
theorem dX9_dance_22 : decode cX9_dance 22 = .ok (.aload_n 0, 1) := by decide +kernel
theorem dX9_dance_23 : decode cX9_dance 23 = .ok (.getfield 30, 3) := by decide +kernel
theorem dX9_dance_26 : decode cX9_dance 26 = .ok (.astore_n 2, 1) := by decide +kernel
theorem dX9_dance_27 : decode cX9_dance 27 = .ok (.aload_n 0, 1) := by decide +kernel
theorem dX9_dance_28 : decode cX9_dance 28 = .ok (.aload_n 0, 1) := by decide +kernel
theorem dX9_dance_29 : decode cX9_dance 29 = .ok (.getfield 26, 3) := by decide +kernel
theorem dX9_dance_32 : decode cX9_dance 32 = .ok (.putfield 30, 3) := by decide +kernel
theorem dX9_dance_35 : decode cX9_dance 35 = .ok (.aload_n 0, 1) := by decide +kernel
theorem dX9_dance_36 : decode cX9_dance 36 = .ok (.aload_n 2, 1) := by decide +kernel
theorem dX9_dance_37 : decode cX9_dance 37 = .ok (.putfield 26, 3) := by decide +kernel
theorem dX9_dance_40 : decode cX9_dance 40 = .ok (.aload_n 0, 1) := by decide +kernel
theorem dX9_dance_41 : decode cX9_dance 41 = .ok (.getfield 10, 3) := by decide +kernel
theorem dX9_dance_44 : decode cX9_dance 44 = .ok (.invokevirtual 89, 3) := by decide +kernel
theorem dX9_dance_47 : decode cX9_dance 47 = .ok (.aload_n 0, 1) := by decide +kernel
theorem dX9_dance_48 : decode cX9_dance 48 = .ok (.getfield 36, 3) := by decide +kernel
theorem dX9_dance_51 : decode cX9_dance 51 = .ok (.invokevirtual 96, 3) := by decide +kernel
theorem dX9_dance_54 : decode cX9_dance 54 = .ok (.aload_n 0, 1) := by decide +kernel
theorem dX9_dance_55 : decode cX9_dance 55 = .ok (.getfield 43, 3) := by decide +kernel
theorem dX9_dance_58 : decode cX9_dance 58 = .ok (.invokevirtual 97, 3) := by decide +kernel
theorem dX9_dance_61 : decode cX9_dance 61 = .ok (.aload_n 0, 1) := by decide +kernel
theorem dX9_dance_62 : decode cX9_dance 62 = .ok (.getfield 50, 3) := by decide +kernel
theorem dX9_dance_65 : decode cX9_dance 65 = .ok (.invokevirtual 98, 3) := by decide +kernel
theorem dX9_dance_68 : decode cX9_dance 68 = .ok (.aload_n 0, 1) := by decide +kernel
theorem dX9_dance_69 : decode cX9_dance 69 = .ok (.getfield 54, 3) := by decide +kernel
theorem dX9_dance_72 : decode cX9_dance 72 = .ok (.invokevirtual 98, 3) := by decide +kernel
theorem dX9_dance_75 : decode cX9_dance 75 = .ok (.iload_n 1, 1) := by decide +kernel
theorem dX9_dance_76 : decode cX9_dance 76 = .ok (.ireturn, 1) := by decide +kernel
set_option maxRecDepth 20000 in
theorem ggX9_sign_X9_isDancer : GoodIn wsX9_sign wsX9_isDancer := goodIn_r _ [6, 1, 21, 22, 23, 24, 25, 26, 27, 28, 29, 30, 31, 32, 33, 34, 35, 36, 37, 38] (by decide +kernel) (by decide +kernel)
set_option maxRecDepth 20000 in
theorem gX9_sign_X9_isDancer : GoodIn wsX9_sign (wsV RX9 101 RX9 yX9_isDancer wsX9_isDancer) := goodIn_app (goodIn_of _ (by decide +kernel)) ggX9_sign_X9_isDancer
set_option maxRecDepth 20000 in
theorem ggX9_sign_X5_signAt : GoodIn wsX9_sign wsX5_signAt := goodIn_r _ [11, 12, 13, 14, 15, 10, 16, 17, 18, 19, 20, 39, 40] (by decide +kernel) (by decide +kernel)
set_option maxRecDepth 20000 in
theorem gX9_sign_X5_signAt : GoodIn wsX9_sign (wsV RX9 108 RX5 yX5_signAt wsX5_signAt) := goodIn_app (goodIn_of _ (by decide +kernel)) ggX9_sign_X5_signAt
theorem dX9_sign_0 : decode cX9_sign 0 = .ok (.aload_n 0, 1) := by decide +kernel
theorem dX9_sign_1 : decode cX9_sign 1 = .ok (.iload_n 1, 1) := by decide +kernel
theorem dX9_sign_2 : decode cX9_sign 2 = .ok (.invokevirtual 101, 3) := by decide +kernel
theorem dX9_sign_5 : decode cX9_sign 5 = .ok (.ifCond .eq 13, 3) := by decide +kernel
theorem dX9_sign_8 : decode cX9_sign 8 = .ok (.iload_n 2, 1) := by decide +kernel
theorem dX9_sign_9 : decode cX9_sign 9 = .ok (.ifCond .lt 9, 3) := by decide +kernel
theorem dX9_sign_12 : decode cX9_sign 12 = .ok (.iload_n 2, 1) := by decide +kernel
theorem dX9_sign_13 : decode cX9_sign 13 = .ok (.bipush 10, 2) := by decide +kernel
theorem dX9_sign_15 : decode cX9_sign 15 = .ok (.if_icmp .lt 5, 3) := by decide +kernel
theorem dX9_sign_18 : decode cX9_sign 18 = .ok (.iconst (-1), 1) := by decide +kernel
theorem dX9_sign_19 : decode cX9_sign 19 = .ok (.ireturn, 1) := by decide +kernel
theorem dX9_sign_20 : decode cX9_sign 20 = .ok (.aload_n 0, 1) := by decide +kernel
theorem dX9_sign_21 : decode cX9_sign 21 = .ok (.getfield 26, 3) := by decide +kernel
theorem dX9_sign_24 : decode cX9_sign 24 = .ok (.getfield 104, 3) := by decide +kernel
theorem dX9_sign_27 : decode cX9_sign 27 = .ok (.iload_n 1, 1) := by decide +kernel
theorem dX9_sign_28 : decode cX9_sign 28 = .ok (.iload_n 2, 1) := by decide +kernel
theorem dX9_sign_29 : decode cX9_sign 29 = .ok (.invokevirtual 108, 3) := by decide +kernel
theorem dX9_sign_32 : decode cX9_sign 32 = .ok (.ireturn, 1) := by decide +kernel
set_option maxRecDepth 20000 in
theorem ggX9_stand_X9_isDancer : GoodIn wsX9_stand wsX9_isDancer := goodIn_r _ [8, 2, 77, 78, 79, 80, 81, 82, 83, 84, 85, 86, 87, 88, 89, 94, 95, 96, 97, 98] (by decide +kernel) (by decide +kernel)
set_option maxRecDepth 20000 in
theorem gX9_stand_X9_isDancer : GoodIn wsX9_stand (wsV RX9 101 RX9 yX9_isDancer wsX9_isDancer) := goodIn_app (goodIn_of _ (by decide +kernel)) ggX9_stand_X9_isDancer
set_option maxRecDepth 20000 in
theorem ggX9_stand_X9_isMoment : GoodIn wsX9_stand wsX9_isMoment := goodIn_r _ [11] (by decide +kernel) (by decide +kernel)
set_option maxRecDepth 20000 in
theorem gX9_stand_X9_isMoment : GoodIn wsX9_stand (va_wsS RX9 114 yX9_isMoment wsX9_isMoment) := goodIn_app (goodIn_of _ (by decide +kernel)) ggX9_stand_X9_isMoment
set_option maxRecDepth 20000 in
theorem ggX9_stand_X0_follow : GoodIn wsX9_stand wsX0_follow := goodIn_r _ [16, 17, 18, 19, 20, 21, 22, 23, 24, 25, 26, 27, 28, 29, 30, 31, 32, 33, 34, 35, 36, 37, 38, 39, 15, 40, 41, 42, 43, 44, 10, 7, 11, 45, 46, 47, 48, 49, 50, 51, 52, 53, 54, 55, 56, 57, 58, 59, 60, 61, 62, 63, 64, 65, 66, 67, 68, 69, 70, 71, 99, 100, 101, 102, 103, 104, 94, 95, 96, 97, 98, 90, 91, 92, 93, 105, 106] (by decide +kernel) (by decide +kernel)
set_option maxRecDepth 20000 in
theorem gX9_stand_X0_follow : GoodIn wsX9_stand (wsV RX9 117 RX0 yX0_follow wsX0_follow) := goodIn_app (goodIn_of _ (by decide +kernel)) ggX9_stand_X0_follow
set_option maxRecDepth 20000 in
theorem ggX9_stand_X0_bring : GoodIn wsX9_stand wsX0_bring := goodIn_r _ [75, 41, 42, 43, 44, 10, 7, 11, 76, 29, 30, 31, 32, 33, 34, 35, 36, 99, 100, 101, 102, 103, 104, 90, 91, 92, 93] (by decide +kernel) (by decide +kernel)
set_option maxRecDepth 20000 in
theorem gX9_stand_X0_bring : GoodIn wsX9_stand (wsV RX9 121 RX0 yX0_bring wsX0_bring) := goodIn_app (goodIn_of _ (by decide +kernel)) ggX9_stand_X0_bring
theorem dX9_stand_0 : decode cX9_stand 0 = .ok (.aload_n 0, 1) := by decide +kernel
theorem dX9_stand_1 : decode cX9_stand 1 = .ok (.iload_n 1, 1) := by decide +kernel
theorem dX9_stand_2 : decode cX9_stand 2 = .ok (.invokevirtual 101, 3) := by decide +kernel
theorem dX9_stand_5 : decode cX9_stand 5 = .ok (.ifCond .eq 10, 3) := by decide +kernel
theorem dX9_stand_8 : decode cX9_stand 8 = .ok (.iload_n 2, 1) := by decide +kernel
theorem dX9_stand_9 : decode cX9_stand 9 = .ok (.invokestatic 114, 3) := by decide +kernel
theorem dX9_stand_12 : decode cX9_stand 12 = .ok (.ifCond .ne 5, 3) := by decide +kernel
theorem dX9_stand_15 : decode cX9_stand 15 = .ok (.iconst (-1), 1) := by decide +kernel
theorem dX9_stand_16 : decode cX9_stand 16 = .ok (.ireturn, 1) := by decide +kernel
theorem dX9_stand_17 : decode cX9_stand 17 = .ok (.aload_n 0, 1) := by decide +kernel
theorem dX9_stand_18 : decode cX9_stand 18 = .ok (.getfield 60, 3) := by decide +kernel
theorem dX9_stand_21 : decode cX9_stand 21 = .ok (.aload_n 0, 1) := by decide +kernel
theorem dX9_stand_22 : decode cX9_stand 22 = .ok (.getfield 26, 3) := by decide +kernel
theorem dX9_stand_25 : decode cX9_stand 25 = .ok (.iload_n 1, 1) := by decide +kernel
theorem dX9_stand_26 : decode cX9_stand 26 = .ok (.bipush (-9), 2) := by decide +kernel
theorem dX9_stand_28 : decode cX9_stand 28 = .ok (.invokevirtual 117, 3) := by decide +kernel
theorem dX9_stand_31 : decode cX9_stand 31 = .ok (.aload_n 0, 1) := by decide +kernel
theorem dX9_stand_32 : decode cX9_stand 32 = .ok (.getfield 60, 3) := by decide +kernel
theorem dX9_stand_35 : decode cX9_stand 35 = .ok (.aload_n 0, 1) := by decide +kernel
theorem dX9_stand_36 : decode cX9_stand 36 = .ok (.getfield 70, 3) := by decide +kernel
theorem dX9_stand_39 : decode cX9_stand 39 = .ok (.iload_n 2, 1) := by decide +kernel
theorem dX9_stand_40 : decode cX9_stand 40 = .ok (.invokevirtual 121, 3) := by decide +kernel
theorem dX9_stand_43 : decode cX9_stand 43 = .ok (.iload_n 3, 1) := by decide +kernel
theorem dX9_stand_44 : decode cX9_stand 44 = .ok (.tableswitch 64 0 3 #[32, 40, 48, 56], 32) := by decide +kernel
theorem dX9_stand_76 : decode cX9_stand 76 = .ok (.aload_n 0, 1) := by decide +kernel
theorem dX9_stand_77 : decode cX9_stand 77 = .ok (.getfield 70, 3) := by decide +kernel
theorem dX9_stand_80 : decode cX9_stand 80 = .ok (.getfield 125, 3) := by decide +kernel
theorem dX9_stand_83 : decode cX9_stand 83 = .ok (.ireturn, 1) := by decide +kernel
theorem dX9_stand_84 : decode cX9_stand 84 = .ok (.aload_n 0, 1) := by decide +kernel
theorem dX9_stand_85 : decode cX9_stand 85 = .ok (.getfield 70, 3) := by decide +kernel
theorem dX9_stand_88 : decode cX9_stand 88 = .ok (.getfield 129, 3) := by decide +kernel
theorem dX9_stand_91 : decode cX9_stand 91 = .ok (.ireturn, 1) := by decide +kernel
theorem dX9_stand_92 : decode cX9_stand 92 = .ok (.aload_n 0, 1) := by decide +kernel
theorem dX9_stand_93 : decode cX9_stand 93 = .ok (.getfield 70, 3) := by decide +kernel
theorem dX9_stand_96 : decode cX9_stand 96 = .ok (.getfield 132, 3) := by decide +kernel
theorem dX9_stand_99 : decode cX9_stand 99 = .ok (.ireturn, 1) := by decide +kernel
theorem dX9_stand_100 : decode cX9_stand 100 = .ok (.aload_n 0, 1) := by decide +kernel
theorem dX9_stand_101 : decode cX9_stand 101 = .ok (.getfield 70, 3) := by decide +kernel
theorem dX9_stand_104 : decode cX9_stand 104 = .ok (.getfield 135, 3) := by decide +kernel
theorem dX9_stand_107 : decode cX9_stand 107 = .ok (.ireturn, 1) := by decide +kernel
theorem dX9_stand_108 : decode cX9_stand 108 = .ok (.iconst (-1), 1) := by decide +kernel
theorem dX9_stand_109 : decode cX9_stand 109 = .ok (.ireturn, 1) := by decide +kernel
set_option maxRecDepth 20000 in
theorem ggX9_staff_X9_isDancer : GoodIn wsX9_staff wsX9_isDancer := goodIn_r _ [7, 2, 101, 102, 103, 104, 105, 106, 107, 108, 109, 110, 111, 112, 113, 114, 115, 116, 117, 118] (by decide +kernel) (by decide +kernel)
set_option maxRecDepth 20000 in
theorem gX9_staff_X9_isDancer : GoodIn wsX9_staff (wsV RX9 101 RX9 yX9_isDancer wsX9_isDancer) := goodIn_app (goodIn_of _ (by decide +kernel)) ggX9_staff_X9_isDancer
set_option maxRecDepth 20000 in
theorem ggX9_staff_X0_follow : GoodIn wsX9_staff wsX0_follow := goodIn_r _ [12, 13, 14, 15, 16, 17, 18, 19, 20, 21, 22, 23, 24, 25, 26, 27, 28, 29, 30, 31, 32, 33, 34, 35, 11, 36, 37, 38, 39, 40, 41, 6, 42, 43, 44, 45, 46, 47, 48, 49, 50, 51, 52, 53, 54, 55, 56, 57, 58, 59, 60, 61, 62, 63, 64, 65, 66, 67, 68, 69, 119, 120, 121, 122, 123, 124, 114, 115, 116, 117, 118, 125, 126, 127, 128, 129, 130] (by decide +kernel) (by decide +kernel)
set_option maxRecDepth 20000 in
theorem gX9_staff_X0_follow : GoodIn wsX9_staff (wsV RX9 117 RX0 yX0_follow wsX0_follow) := goodIn_app (goodIn_of _ (by decide +kernel)) ggX9_staff_X0_follow
set_option maxRecDepth 20000 in
theorem ggX9_staff_X5_lengthOf : GoodIn wsX9_staff wsX5_lengthOf := goodIn_r _ [73, 53, 54, 55, 46, 56, 129, 130] (by decide +kernel) (by decide +kernel)
set_option maxRecDepth 20000 in
theorem gX9_staff_X5_lengthOf : GoodIn wsX9_staff (wsV RX9 138 RX5 yX5_lengthOf wsX5_lengthOf) := goodIn_app (goodIn_of _ (by decide +kernel)) ggX9_staff_X5_lengthOf
set_option maxRecDepth 20000 in
theorem ggX9_staff_X0_span : GoodIn wsX9_staff wsX0_span := goodIn_r _ [77, 78, 79, 80, 11, 81, 38, 37, 41, 6, 42, 82, 83, 84, 85, 86, 87, 88, 119, 120, 121, 122, 123, 124] (by decide +kernel) (by decide +kernel)
set_option maxRecDepth 20000 in
theorem gX9_staff_X0_span : GoodIn wsX9_staff (wsV RX9 145 RX0 yX0_span wsX0_span) := goodIn_app (goodIn_of _ (by decide +kernel)) ggX9_staff_X0_span
set_option maxRecDepth 20000 in
theorem ggX9_staff_X0_shifts : GoodIn wsX9_staff wsX0_shifts := goodIn_r _ [92, 40, 119, 120, 121, 122, 123, 124] (by decide +kernel) (by decide +kernel)

set_option maxRecDepth 20000 in
theorem ggX0_init_X6_init : GoodIn wsX0_init wsX6_init := goodIn_r _ [14, 15, 2, 3] (by decide +kernel) (by decide +kernel)
set_option maxRecDepth 20000 in
theorem gX0_init_X6_init_n26 : GoodIn wsX0_init (wsX6_init) := ggX0_init_X6_init
theorem dX0_init_0 : decode cX0_init 0 = .ok (.aload_n 0, 1) := by decide +kernel
theorem dX0_init_1 : decode cX0_init 1 = .ok (.invokespecial 3, 3) := by decide +kernel
theorem dX0_init_4 : decode cX0_init 4 = .ok (.aload_n 0, 1) := by decide +kernel
theorem dX0_init_5 : decode cX0_init 5 = .ok (.bipush 11, 2) := by decide +kernel
theorem dX0_init_7 : decode cX0_init 7 = .ok (.newarray .int, 2) := by decide +kernel
theorem dX0_init_9 : decode cX0_init 9 = .ok (.putfield 9, 3) := by decide +kernel
theorem dX0_init_12 : decode cX0_init 12 = .ok (.aload_n 0, 1) := by decide +kernel
theorem dX0_init_13 : decode cX0_init 13 = .ok (.bipush 11, 2) := by decide +kernel
theorem dX0_init_15 : decode cX0_init 15 = .ok (.newarray .int, 2) := by decide +kernel
theorem dX0_init_17 : decode cX0_init 17 = .ok (.putfield 15, 3) := by decide +kernel
theorem dX0_init_20 : decode cX0_init 20 = .ok (.aload_n 0, 1) := by decide +kernel
theorem dX0_init_21 : decode cX0_init 21 = .ok (.bipush 11, 2) := by decide +kernel
theorem dX0_init_23 : decode cX0_init 23 = .ok (.newarray .int, 2) := by decide +kernel
theorem dX0_init_25 : decode cX0_init 25 = .ok (.putfield 18, 3) := by decide +kernel
theorem dX0_init_28 : decode cX0_init 28 = .ok (.aload_n 0, 1) := by decide +kernel
theorem dX0_init_29 : decode cX0_init 29 = .ok (.bipush 11, 2) := by decide +kernel
theorem dX0_init_31 : decode cX0_init 31 = .ok (.newarray .int, 2) := by decide +kernel
theorem dX0_init_33 : decode cX0_init 33 = .ok (.putfield 21, 3) := by decide +kernel
theorem dX0_init_36 : decode cX0_init 36 = .ok (.aload_n 0, 1) := by decide +kernel
theorem dX0_init_37 : decode cX0_init 37 = .ok (.new 24, 3) := by decide +kernel
theorem dX0_init_40 : decode cX0_init 40 = .ok (.dup, 1) := by decide +kernel
theorem dX0_init_41 : decode cX0_init 41 = .ok (.invokespecial 26, 3) := by decide +kernel
theorem dX0_init_44 : decode cX0_init 44 = .ok (.putfield 27, 3) := by decide +kernel
theorem dX0_init_47 : decode cX0_init 47 = .ok (.return_, 1) := by decide +kernel
set_option maxRecDepth 20000 in
theorem ggX0_follow_X8_bringToBegin : GoodIn wsX0_follow wsX8_bringToBegin := goodIn_r _ [7, 8, 9, 10, 11, 12, 13, 14, 15, 16, 17, 18, 19, 20, 66, 67, 68, 69, 70, 71, 72, 73, 74] (by decide +kernel) (by decide +kernel)
set_option maxRecDepth 20000 in
theorem gX0_follow_X8_bringToBegin : GoodIn wsX0_follow (wsV RX0 35 RX8 yX8_bringToBegin wsX8_bringToBegin) := goodIn_app (goodIn_of _ (by decide +kernel)) ggX0_follow_X8_bringToBegin
set_option maxRecDepth 20000 in
theorem ggX0_follow_X0_note : GoodIn wsX0_follow wsX0_note := goodIn_r _ [25, 26, 2, 27, 28, 29, 30, 31, 32, 60, 61, 62, 63, 64, 65, 71, 72, 73, 74] (by decide +kernel) (by decide +kernel)
set_option maxRecDepth 20000 in
theorem gX0_follow_X0_note : GoodIn wsX0_follow (wsV RX0 41 RX0 yX0_note wsX0_note) := goodIn_app (goodIn_of _ (by decide +kernel)) ggX0_follow_X0_note
set_option maxRecDepth 20000 in
theorem ggX0_follow_X5_signAt : GoodIn wsX0_follow wsX5_signAt := goodIn_r _ [37, 38, 39, 40, 41, 36, 42, 43, 44, 45, 46, 75, 76] (by decide +kernel) (by decide +kernel)
set_option maxRecDepth 20000 in
theorem gX0_follow_X5_signAt : GoodIn wsX0_follow (wsV RX0 49 RX5 yX5_signAt wsX5_signAt) := goodIn_app (goodIn_of _ (by decide +kernel)) ggX0_follow_X5_signAt
set_option maxRecDepth 20000 in
theorem ggX0_follow_X6_take : GoodIn wsX0_follow wsX6_take := goodIn_r _ [50, 20, 19, 51, 31, 52, 53, 54, 55, 15, 56, 17, 18, 57, 58, 59, 13, 14, 16, 71, 72, 73, 74] (by decide +kernel) (by decide +kernel)
set_option maxRecDepth 20000 in
theorem gX0_follow_X6_take : GoodIn wsX0_follow (wsV RX0 55 RX6 yX6_take wsX6_take) := goodIn_app (goodIn_of _ (by decide +kernel)) ggX0_follow_X6_take
theorem dX0_follow_0 : decode cX0_follow 0 = .ok (.aload_n 0, 1) := by decide +kernel
theorem dX0_follow_1 : decode cX0_follow 1 = .ok (.bipush (-9), 2) := by decide +kernel
theorem dX0_follow_3 : decode cX0_follow 3 = .ok (.putfield 31, 3) := by decide +kernel
theorem dX0_follow_6 : decode cX0_follow 6 = .ok (.aload_n 1, 1) := by decide +kernel
theorem dX0_follow_7 : decode cX0_follow 7 = .ok (.aload_n 0, 1) := by decide +kernel
theorem dX0_follow_8 : decode cX0_follow 8 = .ok (.getfield 27, 3) := by decide +kernel
theorem dX0_follow_11 : decode cX0_follow 11 = .ok (.iload_n 2, 1) := by decide +kernel
theorem dX0_follow_12 : decode cX0_follow 12 = .ok (.invokevirtual 35, 3) := by decide +kernel
theorem dX0_follow_15 : decode cX0_follow 15 = .ok (.aload_n 0, 1) := by decide +kernel
theorem dX0_follow_16 : decode cX0_follow 16 = .ok (.iconst 0, 1) := by decide +kernel
theorem dX0_follow_17 : decode cX0_follow 17 = .ok (.invokevirtual 41, 3) := by decide +kernel
theorem dX0_follow_20 : decode cX0_follow 20 = .ok (.iconst 0, 1) := by decide +kernel
theorem dX0_follow_21 : decode cX0_follow 21 = .ok (.istore 4, 2) := by decide +kernel
theorem dX0_follow_23 : decode cX0_follow 23 = .ok (.iload 4, 2) := by decide +kernel
theorem dX0_follow_25 : decode cX0_follow 25 = .ok (.bipush 10, 2) := by decide +kernel
theorem dX0_follow_27 : decode cX0_follow 27 = .ok (.if_icmp .ge 81, 3) := by decide +kernel
theorem dX0_follow_30 : decode cX0_follow 30 = .ok (.aload_n 1, 1) := by decide +kernel
theorem dX0_follow_31 : decode cX0_follow 31 = .ok (.getfield 45, 3) := by decide +kernel
theorem dX0_follow_34 : decode cX0_follow 34 = .ok (.iload_n 2, 1) := by decide +kernel
theorem dX0_follow_35 : decode cX0_follow 35 = .ok (.iload 4, 2) := by decide +kernel
theorem dX0_follow_37 : decode cX0_follow 37 = .ok (.invokevirtual 49, 3) := by decide +kernel
theorem dX0_follow_40 : decode cX0_follow 40 = .ok (.istore 5, 2) := by decide +kernel
theorem dX0_follow_42 : decode cX0_follow 42 = .ok (.iload 5, 2) := by decide +kernel
theorem dX0_follow_44 : decode cX0_follow 44 = .ok (.bipush (-9), 2) := by decide +kernel
theorem dX0_follow_46 : decode cX0_follow 46 = .ok (.if_icmp .eq 18, 3) := by decide +kernel
theorem dX0_follow_49 : decode cX0_follow 49 = .ok (.iload 4, 2) := by decide +kernel
theorem dX0_follow_51 : decode cX0_follow 51 = .ok (.iload_n 3, 1) := by decide +kernel
theorem dX0_follow_52 : decode cX0_follow 52 = .ok (.if_icmp .eq 12, 3) := by decide +kernel
theorem dX0_follow_55 : decode cX0_follow 55 = .ok (.aload_n 0, 1) := by decide +kernel
theorem dX0_follow_56 : decode cX0_follow 56 = .ok (.getfield 31, 3) := by decide +kernel
theorem dX0_follow_59 : decode cX0_follow 59 = .ok (.bipush (-9), 2) := by decide +kernel
theorem dX0_follow_61 : decode cX0_follow 61 = .ok (.if_icmp .eq 7, 3) := by decide +kernel
theorem dX0_follow_64 : decode cX0_follow 64 = .ok (.iconst 1, 1) := by decide +kernel
theorem dX0_follow_65 : decode cX0_follow 65 = .ok (.goto 4, 3) := by decide +kernel
theorem dX0_follow_68 : decode cX0_follow 68 = .ok (.iconst 0, 1) := by decide +kernel
theorem dX0_follow_69 : decode cX0_follow 69 = .ok (.istore 6, 2) := by decide +kernel
theorem dX0_follow_71 : decode cX0_follow 71 = .ok (.iload 6, 2) := by decide +kernel
theorem dX0_follow_73 : decode cX0_follow 73 = .ok (.ifCond .ne 21, 3) := by decide +kernel
theorem dX0_follow_76 : decode cX0_follow 76 = .ok (.aload_n 0, 1) := by decide +kernel
theorem dX0_follow_77 : decode cX0_follow 77 = .ok (.getfield 27, 3) := by decide +kernel
theorem dX0_follow_80 : decode cX0_follow 80 = .ok (.iload 5, 2) := by decide +kernel
theorem dX0_follow_82 : decode cX0_follow 82 = .ok (.invokevirtual 55, 3) := by decide +kernel
theorem dX0_follow_85 : decode cX0_follow 85 = .ok (.ifCond .ne 9, 3) := by decide +kernel
theorem dX0_follow_88 : decode cX0_follow 88 = .ok (.aload_n 0, 1) := by decide +kernel
theorem dX0_follow_89 : decode cX0_follow 89 = .ok (.iload 4, 2) := by decide +kernel
theorem dX0_follow_91 : decode cX0_follow 91 = .ok (.putfield 31, 3) := by decide +kernel
theorem dX0_follow_94 : decode cX0_follow 94 = .ok (.aload_n 0, 1) := by decide +kernel
theorem dX0_follow_95 : decode cX0_follow 95 = .ok (.iload 4, 2) := by decide +kernel
theorem dX0_follow_97 : decode cX0_follow 97 = .ok (.iconst 1, 1) := by decide +kernel
theorem dX0_follow_98 : decode cX0_follow 98 = .ok (.iadd, 1) := by decide +kernel
theorem dX0_follow_99 : decode cX0_follow 99 = .ok (.invokevirtual 41, 3) := by decide +kernel
theorem dX0_follow_102 : decode cX0_follow 102 = .ok (.iinc 4 1, 3) := by decide +kernel
theorem dX0_follow_105 : decode cX0_follow 105 = .ok (.goto (-82), 3) := by decide +kernel
theorem dX0_follow_108 : decode cX0_follow 108 = .ok (.return_, 1) := by decide +kernel
set_option maxRecDepth 20000 in
theorem ggX0_note_X9_isMoment : GoodIn wsX0_note wsX9_isMoment := goodIn_r _ [8] (by decide +kernel) (by decide +kernel)
set_option maxRecDepth 20000 in
theorem gX0_note_X9_isMoment_n59 : GoodIn wsX0_note (wsX9_isMoment) := ggX0_note_X9_isMoment
theorem dX0_note_0 : decode cX0_note 0 = .ok (.iload_n 1, 1) := by decide +kernel
theorem dX0_note_1 : decode cX0_note 1 = .ok (.invokestatic 59, 3) := by decide +kernel
theorem dX0_note_4 : decode cX0_note 4 = .ok (.ifCond .ne 4, 3) := by decide +kernel
theorem dX0_note_7 : decode cX0_note 7 = .ok (.return_, 1) := by decide +kernel
theorem dX0_note_8 : decode cX0_note 8 = .ok (.aload_n 0, 1) := by decide +kernel
theorem dX0_note_9 : decode cX0_note 9 = .ok (.getfield 9, 3) := by decide +kernel
theorem dX0_note_12 : decode cX0_note 12 = .ok (.iload_n 1, 1) := by decide +kernel
theorem dX0_note_13 : decode cX0_note 13 = .ok (.aload_n 0, 1) := by decide +kernel
theorem dX0_note_14 : decode cX0_note 14 = .ok (.getfield 27, 3) := by decide +kernel
theorem dX0_note_17 : decode cX0_note 17 = .ok (.getfield 62, 3) := by decide +kernel
theorem dX0_note_20 : decode cX0_note 20 = .ok (.iastore, 1) := by decide +kernel
theorem dX0_note_21 : decode cX0_note 21 = .ok (.aload_n 0, 1) := by decide +kernel
theorem dX0_note_22 : decode cX0_note 22 = .ok (.getfield 15, 3) := by decide +kernel
theorem dX0_note_25 : decode cX0_note 25 = .ok (.iload_n 1, 1) := by decide +kernel
theorem dX0_note_26 : decode cX0_note 26 = .ok (.aload_n 0, 1) := by decide +kernel
theorem dX0_note_27 : decode cX0_note 27 = .ok (.getfield 27, 3) := by decide +kernel
theorem dX0_note_30 : decode cX0_note 30 = .ok (.getfield 65, 3) := by decide +kernel
theorem dX0_note_33 : decode cX0_note 33 = .ok (.iastore, 1) := by decide +kernel
theorem dX0_note_34 : decode cX0_note 34 = .ok (.aload_n 0, 1) := by decide +kernel
theorem dX0_note_35 : decode cX0_note 35 = .ok (.getfield 18, 3) := by decide +kernel
theorem dX0_note_38 : decode cX0_note 38 = .ok (.iload_n 1, 1) := by decide +kernel
theorem dX0_note_39 : decode cX0_note 39 = .ok (.aload_n 0, 1) := by decide +kernel
theorem dX0_note_40 : decode cX0_note 40 = .ok (.getfield 27, 3) := by decide +kernel
theorem dX0_note_43 : decode cX0_note 43 = .ok (.getfield 68, 3) := by decide +kernel
theorem dX0_note_46 : decode cX0_note 46 = .ok (.iastore, 1) := by decide +kernel
theorem dX0_note_47 : decode cX0_note 47 = .ok (.aload_n 0, 1) := by decide +kernel
theorem dX0_note_48 : decode cX0_note 48 = .ok (.getfield 21, 3) := by decide +kernel
theorem dX0_note_51 : decode cX0_note 51 = .ok (.iload_n 1, 1) := by decide +kernel
theorem dX0_note_52 : decode cX0_note 52 = .ok (.aload_n 0, 1) := by decide +kernel
theorem dX0_note_53 : decode cX0_note 53 = .ok (.getfield 27, 3) := by decide +kernel
theorem dX0_note_56 : decode cX0_note 56 = .ok (.getfield 70, 3) := by decide +kernel
theorem dX0_note_59 : decode cX0_note 59 = .ok (.iastore, 1) := by decide +kernel
theorem dX0_note_60 : decode cX0_note 60 = .ok (.return_, 1) := by decide +kernel
set_option maxRecDepth 20000 in
theorem ggX0_bring_X9_isMoment : GoodIn wsX0_bring wsX9_isMoment := goodIn_r _ [7] (by decide +kernel) (by decide +kernel)
set_option maxRecDepth 20000 in
theorem gX0_bring_X9_isMoment_n59 : GoodIn wsX0_bring (wsX9_isMoment) := ggX0_bring_X9_isMoment
set_option maxRecDepth 20000 in
theorem ggX0_bring_X6_set : GoodIn wsX0_bring wsX6_set := goodIn_r _ [12, 13, 14, 15, 16, 23, 24, 25, 26] (by decide +kernel) (by decide +kernel)
set_option maxRecDepth 20000 in
theorem gX0_bring_X6_set : GoodIn wsX0_bring (wsV RX0 73 RX6 yX6_set wsX6_set) := goodIn_app (goodIn_of _ (by decide +kernel)) ggX0_bring_X6_set
theorem dX0_bring_0 : decode cX0_bring 0 = .ok (.iload_n 2, 1) := by decide +kernel
theorem dX0_bring_1 : decode cX0_bring 1 = .ok (.invokestatic 59, 3) := by decide +kernel
theorem dX0_bring_4 : decode cX0_bring 4 = .ok (.ifCond .eq 31, 3) := by decide +kernel
theorem dX0_bring_7 : decode cX0_bring 7 = .ok (.aload_n 1, 1) := by decide +kernel
theorem dX0_bring_8 : decode cX0_bring 8 = .ok (.aload_n 0, 1) := by decide +kernel
theorem dX0_bring_9 : decode cX0_bring 9 = .ok (.getfield 9, 3) := by decide +kernel
theorem dX0_bring_12 : decode cX0_bring 12 = .ok (.iload_n 2, 1) := by decide +kernel
theorem dX0_bring_13 : decode cX0_bring 13 = .ok (.iaload, 1) := by decide +kernel
theorem dX0_bring_14 : decode cX0_bring 14 = .ok (.aload_n 0, 1) := by decide +kernel
theorem dX0_bring_15 : decode cX0_bring 15 = .ok (.getfield 15, 3) := by decide +kernel
theorem dX0_bring_18 : decode cX0_bring 18 = .ok (.iload_n 2, 1) := by decide +kernel
theorem dX0_bring_19 : decode cX0_bring 19 = .ok (.iaload, 1) := by decide +kernel
theorem dX0_bring_20 : decode cX0_bring 20 = .ok (.aload_n 0, 1) := by decide +kernel
theorem dX0_bring_21 : decode cX0_bring 21 = .ok (.getfield 18, 3) := by decide +kernel
theorem dX0_bring_24 : decode cX0_bring 24 = .ok (.iload_n 2, 1) := by decide +kernel
theorem dX0_bring_25 : decode cX0_bring 25 = .ok (.iaload, 1) := by decide +kernel
theorem dX0_bring_26 : decode cX0_bring 26 = .ok (.aload_n 0, 1) := by decide +kernel
theorem dX0_bring_27 : decode cX0_bring 27 = .ok (.getfield 21, 3) := by decide +kernel
theorem dX0_bring_30 : decode cX0_bring 30 = .ok (.iload_n 2, 1) := by decide +kernel
theorem dX0_bring_31 : decode cX0_bring 31 = .ok (.iaload, 1) := by decide +kernel
theorem dX0_bring_32 : decode cX0_bring 32 = .ok (.invokevirtual 73, 3) := by decide +kernel
theorem dX0_bring_35 : decode cX0_bring 35 = .ok (.return_, 1) := by decide +kernel
set_option maxRecDepth 20000 in
theorem ggX0_isAt_X9_isMoment : GoodIn wsX0_isAt wsX9_isMoment := goodIn_r _ [5] (by decide +kernel) (by decide +kernel)
set_option maxRecDepth 20000 in
theorem gX0_isAt_X9_isMoment_n59 : GoodIn wsX0_isAt (wsX9_isMoment) := ggX0_isAt_X9_isMoment
theorem dX0_isAt_0 : decode cX0_isAt 0 = .ok (.iload_n 1, 1) := by decide +kernel
theorem dX0_isAt_1 : decode cX0_isAt 1 = .ok (.invokestatic 59, 3) := by decide +kernel
theorem dX0_isAt_4 : decode cX0_isAt 4 = .ok (.ifCond .eq 27, 3) := by decide +kernel
theorem dX0_isAt_7 : decode cX0_isAt 7 = .ok (.aload_n 0, 1) := by decide +kernel
theorem dX0_isAt_8 : decode cX0_isAt 8 = .ok (.getfield 9, 3) := by decide +kernel
theorem dX0_isAt_11 : decode cX0_isAt 11 = .ok (.iload_n 1, 1) := by decide +kernel
theorem dX0_isAt_12 : decode cX0_isAt 12 = .ok (.iaload, 1) := by decide +kernel
theorem dX0_isAt_13 : decode cX0_isAt 13 = .ok (.iload_n 2, 1) := by decide +kernel
theorem dX0_isAt_14 : decode cX0_isAt 14 = .ok (.if_icmp .ne 17, 3) := by decide +kernel
theorem dX0_isAt_17 : decode cX0_isAt 17 = .ok (.aload_n 0, 1) := by decide +kernel
theorem dX0_isAt_18 : decode cX0_isAt 18 = .ok (.getfield 15, 3) := by decide +kernel
theorem dX0_isAt_21 : decode cX0_isAt 21 = .ok (.iload_n 1, 1) := by decide +kernel
theorem dX0_isAt_22 : decode cX0_isAt 22 = .ok (.iaload, 1) := by decide +kernel
theorem dX0_isAt_23 : decode cX0_isAt 23 = .ok (.iload_n 3, 1) := by decide +kernel
theorem dX0_isAt_24 : decode cX0_isAt 24 = .ok (.if_icmp .ne 7, 3) := by decide +kernel
theorem dX0_isAt_27 : decode cX0_isAt 27 = .ok (.iconst 1, 1) := by decide +kernel
theorem dX0_isAt_28 : decode cX0_isAt 28 = .ok (.goto 4, 3) := by decide +kernel
theorem dX0_isAt_31 : decode cX0_isAt 31 = .ok (.iconst 0, 1) := by decide +kernel
theorem dX0_isAt_32 : decode cX0_isAt 32 = .ok (.ireturn, 1) := by decide +kernel
set_option maxRecDepth 20000 in
theorem ggX0_placeBit_X9_isMoment : GoodIn wsX0_placeBit wsX9_isMoment := goodIn_r _ [5] (by decide +kernel) (by decide +kernel)
set_option maxRecDepth 20000 in
theorem gX0_placeBit_X9_isMoment_n59 : GoodIn wsX0_placeBit (wsX9_isMoment) := ggX0_placeBit_X9_isMoment
theorem dX0_placeBit_0 : decode cX0_placeBit 0 = .ok (.iload_n 1, 1) := by decide +kernel
theorem dX0_placeBit_1 : decode cX0_placeBit 1 = .ok (.invokestatic 59, 3) := by decide +kernel
theorem dX0_placeBit_4 : decode cX0_placeBit 4 = .ok (.ifCond .eq 24, 3) := by decide +kernel
theorem dX0_placeBit_7 : decode cX0_placeBit 7 = .ok (.lconst 1, 1) := by decide +kernel
theorem dX0_placeBit_8 : decode cX0_placeBit 8 = .ok (.aload_n 0, 1) := by decide +kernel
theorem dX0_placeBit_9 : decode cX0_placeBit 9 = .ok (.getfield 15, 3) := by decide +kernel
theorem dX0_placeBit_12 : decode cX0_placeBit 12 = .ok (.iload_n 1, 1) := by decide +kernel
theorem dX0_placeBit_13 : decode cX0_placeBit 13 = .ok (.iaload, 1) := by decide +kernel
theorem dX0_placeBit_14 : decode cX0_placeBit 14 = .ok (.bipush 7, 2) := by decide +kernel
theorem dX0_placeBit_16 : decode cX0_placeBit 16 = .ok (.imul, 1) := by decide +kernel
theorem dX0_placeBit_17 : decode cX0_placeBit 17 = .ok (.aload_n 0, 1) := by decide +kernel
theorem dX0_placeBit_18 : decode cX0_placeBit 18 = .ok (.getfield 9, 3) := by decide +kernel
theorem dX0_placeBit_21 : decode cX0_placeBit 21 = .ok (.iload_n 1, 1) := by decide +kernel
theorem dX0_placeBit_22 : decode cX0_placeBit 22 = .ok (.iaload, 1) := by decide +kernel
theorem dX0_placeBit_23 : decode cX0_placeBit 23 = .ok (.iadd, 1) := by decide +kernel
theorem dX0_placeBit_24 : decode cX0_placeBit 24 = .ok (.lshl, 1) := by decide +kernel
theorem dX0_placeBit_25 : decode cX0_placeBit 25 = .ok (.goto 4, 3) := by decide +kernel
theorem dX0_placeBit_28 : decode cX0_placeBit 28 = .ok (.lconst 0, 1) := by decide +kernel
theorem dX0_placeBit_29 : decode cX0_placeBit 29 = .ok (.lreturn, 1) := by decide +kernel
set_option maxRecDepth 20000 in
theorem ggX0_span_X0_placeBit : GoodIn wsX0_span wsX0_placeBit := goodIn_r _ [5, 6, 7, 8, 9, 10, 18, 19, 20, 21, 22, 23] (by decide +kernel) (by decide +kernel)
set_option maxRecDepth 20000 in
theorem gX0_span_X0_placeBit : GoodIn wsX0_span (wsV RX0 77 RX0 yX0_placeBit wsX0_placeBit) := goodIn_app (goodIn_of _ (by decide +kernel)) ggX0_span_X0_placeBit
set_option maxRecDepth 20000 in
theorem ggX0_span_J13_bitCount_95d88 : GoodIn wsX0_span wsJ13_bitCount_95d88 := goodIn_r _ [14, 15, 16, 17] (by decide +kernel) (by decide +kernel)
set_option maxRecDepth 20000 in
theorem gX0_span_J13_bitCount_95d88 : GoodIn wsX0_span (va_wsS RX0 81 yJ13_bitCount_95d88 wsJ13_bitCount_95d88) := goodIn_app (goodIn_of _ (by decide +kernel)) ggX0_span_J13_bitCount_95d88
theorem dX0_span_0 : decode cX0_span 0 = .ok (.lconst 0, 1) := by decide +kernel
theorem dX0_span_1 : decode cX0_span 1 = .ok (.lstore_n 1, 1) := by decide +kernel
theorem dX0_span_2 : decode cX0_span 2 = .ok (.iconst 0, 1) := by decide +kernel
theorem dX0_span_3 : decode cX0_span 3 = .ok (.istore_n 3, 1) := by decide +kernel
theorem dX0_span_4 : decode cX0_span 4 = .ok (.iload_n 3, 1) := by decide +kernel
theorem dX0_span_5 : decode cX0_span 5 = .ok (.bipush 10, 2) := by decide +kernel
theorem dX0_span_7 : decode cX0_span 7 = .ok (.if_icmp .gt 17, 3) := by decide +kernel
theorem dX0_span_10 : decode cX0_span 10 = .ok (.lload_n 1, 1) := by decide +kernel
theorem dX0_span_11 : decode cX0_span 11 = .ok (.aload_n 0, 1) := by decide +kernel
theorem dX0_span_12 : decode cX0_span 12 = .ok (.iload_n 3, 1) := by decide +kernel
theorem dX0_span_13 : decode cX0_span 13 = .ok (.invokevirtual 77, 3) := by decide +kernel
theorem dX0_span_16 : decode cX0_span 16 = .ok (.lor, 1) := by decide +kernel
theorem dX0_span_17 : decode cX0_span 17 = .ok (.lstore_n 1, 1) := by decide +kernel
theorem dX0_span_18 : decode cX0_span 18 = .ok (.iinc 3 1, 3) := by decide +kernel
theorem dX0_span_21 : decode cX0_span 21 = .ok (.goto (-17), 3) := by decide +kernel
theorem dX0_span_24 : decode cX0_span 24 = .ok (.lload_n 1, 1) := by decide +kernel
theorem dX0_span_25 : decode cX0_span 25 = .ok (.invokestatic 81, 3) := by decide +kernel
theorem dX0_span_28 : decode cX0_span 28 = .ok (.ireturn, 1) := by decide +kernel
theorem dX0_shifts_0 : decode cX0_shifts 0 = .ok (.iconst 0, 1) := by decide +kernel
theorem dX0_shifts_1 : decode cX0_shifts 1 = .ok (.istore_n 1, 1) := by decide +kernel
theorem dX0_shifts_2 : decode cX0_shifts 2 = .ok (.iconst 1, 1) := by decide +kernel
theorem dX0_shifts_3 : decode cX0_shifts 3 = .ok (.istore_n 2, 1) := by decide +kernel
theorem dX0_shifts_4 : decode cX0_shifts 4 = .ok (.iload_n 2, 1) := by decide +kernel
theorem dX0_shifts_5 : decode cX0_shifts 5 = .ok (.bipush 10, 2) := by decide +kernel
theorem dX0_shifts_7 : decode cX0_shifts 7 = .ok (.if_icmp .gt 29, 3) := by decide +kernel
theorem dX0_shifts_10 : decode cX0_shifts 10 = .ok (.aload_n 0, 1) := by decide +kernel
theorem dX0_shifts_11 : decode cX0_shifts 11 = .ok (.getfield 21, 3) := by decide +kernel
theorem dX0_shifts_14 : decode cX0_shifts 14 = .ok (.iload_n 2, 1) := by decide +kernel
theorem dX0_shifts_15 : decode cX0_shifts 15 = .ok (.iaload, 1) := by decide +kernel
theorem dX0_shifts_16 : decode cX0_shifts 16 = .ok (.aload_n 0, 1) := by decide +kernel
theorem dX0_shifts_17 : decode cX0_shifts 17 = .ok (.getfield 21, 3) := by decide +kernel
theorem dX0_shifts_20 : decode cX0_shifts 20 = .ok (.iload_n 2, 1) := by decide +kernel
theorem dX0_shifts_21 : decode cX0_shifts 21 = .ok (.iconst 1, 1) := by decide +kernel
theorem dX0_shifts_22 : decode cX0_shifts 22 = .ok (.isub, 1) := by decide +kernel
theorem dX0_shifts_23 : decode cX0_shifts 23 = .ok (.iaload, 1) := by decide +kernel
theorem dX0_shifts_24 : decode cX0_shifts 24 = .ok (.if_icmp .eq 6, 3) := by decide +kernel
theorem dX0_shifts_27 : decode cX0_shifts 27 = .ok (.iinc 1 1, 3) := by decide +kernel
theorem dX0_shifts_30 : decode cX0_shifts 30 = .ok (.iinc 2 1, 3) := by decide +kernel
theorem dX0_shifts_33 : decode cX0_shifts 33 = .ok (.goto (-29), 3) := by decide +kernel
theorem dX0_shifts_36 : decode cX0_shifts 36 = .ok (.iload_n 1, 1) := by decide +kernel
theorem dX0_shifts_37 : decode cX0_shifts 37 = .ok (.ireturn, 1) := by decide +kernel
set_option maxRecDepth 20000 in
theorem ggX0_home_X0_isAt : GoodIn wsX0_home wsX0_isAt := goodIn_r _ [7, 1, 2, 8, 9, 10, 11, 12, 13, 14, 15, 16] (by decide +kernel) (by decide +kernel)
set_option maxRecDepth 20000 in
theorem gX0_home_X0_isAt : GoodIn wsX0_home (wsV RX0 87 RX0 yX0_isAt wsX0_isAt) := goodIn_app (goodIn_of _ (by decide +kernel)) ggX0_home_X0_isAt
theorem dX0_home_0 : decode cX0_home 0 = .ok (.iconst 0, 1) := by decide +kernel
theorem dX0_home_1 : decode cX0_home 1 = .ok (.istore_n 1, 1) := by decide +kernel
theorem dX0_home_2 : decode cX0_home 2 = .ok (.iconst 1, 1) := by decide +kernel
theorem dX0_home_3 : decode cX0_home 3 = .ok (.istore_n 2, 1) := by decide +kernel
theorem dX0_home_4 : decode cX0_home 4 = .ok (.iload_n 2, 1) := by decide +kernel
theorem dX0_home_5 : decode cX0_home 5 = .ok (.bipush 10, 2) := by decide +kernel
theorem dX0_home_7 : decode cX0_home 7 = .ok (.if_icmp .gt 49, 3) := by decide +kernel
theorem dX0_home_10 : decode cX0_home 10 = .ok (.aload_n 0, 1) := by decide +kernel
theorem dX0_home_11 : decode cX0_home 11 = .ok (.iload_n 2, 1) := by decide +kernel
theorem dX0_home_12 : decode cX0_home 12 = .ok (.aload_n 0, 1) := by decide +kernel
theorem dX0_home_13 : decode cX0_home 13 = .ok (.getfield 9, 3) := by decide +kernel
theorem dX0_home_16 : decode cX0_home 16 = .ok (.iconst 0, 1) := by decide +kernel
theorem dX0_home_17 : decode cX0_home 17 = .ok (.iaload, 1) := by decide +kernel
theorem dX0_home_18 : decode cX0_home 18 = .ok (.aload_n 0, 1) := by decide +kernel
theorem dX0_home_19 : decode cX0_home 19 = .ok (.getfield 15, 3) := by decide +kernel
theorem dX0_home_22 : decode cX0_home 22 = .ok (.iconst 0, 1) := by decide +kernel
theorem dX0_home_23 : decode cX0_home 23 = .ok (.iaload, 1) := by decide +kernel
theorem dX0_home_24 : decode cX0_home 24 = .ok (.invokevirtual 87, 3) := by decide +kernel
theorem dX0_home_27 : decode cX0_home 27 = .ok (.istore_n 3, 1) := by decide +kernel
theorem dX0_home_28 : decode cX0_home 28 = .ok (.iload_n 3, 1) := by decide +kernel
theorem dX0_home_29 : decode cX0_home 29 = .ok (.ifCond .eq 9, 3) := by decide +kernel
theorem dX0_home_32 : decode cX0_home 32 = .ok (.iload_n 1, 1) := by decide +kernel
theorem dX0_home_33 : decode cX0_home 33 = .ok (.ifCond .eq 5, 3) := by decide +kernel
theorem dX0_home_36 : decode cX0_home 36 = .ok (.iload_n 2, 1) := by decide +kernel
theorem dX0_home_37 : decode cX0_home 37 = .ok (.ireturn, 1) := by decide +kernel
theorem dX0_home_38 : decode cX0_home 38 = .ok (.iload_n 1, 1) := by decide +kernel
theorem dX0_home_39 : decode cX0_home 39 = .ok (.iload_n 3, 1) := by decide +kernel
theorem dX0_home_40 : decode cX0_home 40 = .ok (.ifCond .ne 7, 3) := by decide +kernel
theorem dX0_home_43 : decode cX0_home 43 = .ok (.iconst 1, 1) := by decide +kernel
theorem dX0_home_44 : decode cX0_home 44 = .ok (.goto 4, 3) := by decide +kernel
theorem dX0_home_47 : decode cX0_home 47 = .ok (.iconst 0, 1) := by decide +kernel
theorem dX0_home_48 : decode cX0_home 48 = .ok (.ior, 1) := by decide +kernel
theorem dX0_home_49 : decode cX0_home 49 = .ok (.istore_n 1, 1) := by decide +kernel
theorem dX0_home_50 : decode cX0_home 50 = .ok (.iinc 2 1, 3) := by decide +kernel
theorem dX0_home_53 : decode cX0_home 53 = .ok (.goto (-49), 3) := by decide +kernel
theorem dX0_home_56 : decode cX0_home 56 = .ok (.bipush (-9), 2) := by decide +kernel
theorem dX0_home_58 : decode cX0_home 58 = .ok (.ireturn, 1) := by decide +kernel
set_option maxRecDepth 20000 in
theorem ggX0_meets_X9_isMoment : GoodIn wsX0_meets wsX9_isMoment := goodIn_r _ [5] (by decide +kernel) (by decide +kernel)
set_option maxRecDepth 20000 in
theorem gX0_meets_X9_isMoment_n59 : GoodIn wsX0_meets (wsX9_isMoment) := ggX0_meets_X9_isMoment
set_option maxRecDepth 20000 in
theorem ggX0_meets_X0_isAt : GoodIn wsX0_meets wsX0_isAt := goodIn_r _ [10, 1, 2, 3, 4, 5, 11, 12, 13, 14, 15, 16] (by decide +kernel) (by decide +kernel)
set_option maxRecDepth 20000 in
theorem gX0_meets_X0_isAt : GoodIn wsX0_meets (wsV RX0 87 RX0 yX0_isAt wsX0_isAt) := goodIn_app (goodIn_of _ (by decide +kernel)) ggX0_meets_X0_isAt
theorem dX0_meets_0 : decode cX0_meets 0 = .ok (.iload_n 2, 1) := by decide +kernel
theorem dX0_meets_1 : decode cX0_meets 1 = .ok (.invokestatic 59, 3) := by decide +kernel
theorem dX0_meets_4 : decode cX0_meets 4 = .ok (.ifCond .eq 27, 3) := by decide +kernel
theorem dX0_meets_7 : decode cX0_meets 7 = .ok (.aload_n 1, 1) := by decide +kernel
theorem dX0_meets_8 : decode cX0_meets 8 = .ok (.iload_n 2, 1) := by decide +kernel
theorem dX0_meets_9 : decode cX0_meets 9 = .ok (.aload_n 0, 1) := by decide +kernel
theorem dX0_meets_10 : decode cX0_meets 10 = .ok (.getfield 9, 3) := by decide +kernel
theorem dX0_meets_13 : decode cX0_meets 13 = .ok (.iload_n 2, 1) := by decide +kernel
theorem dX0_meets_14 : decode cX0_meets 14 = .ok (.iaload, 1) := by decide +kernel
theorem dX0_meets_15 : decode cX0_meets 15 = .ok (.aload_n 0, 1) := by decide +kernel
theorem dX0_meets_16 : decode cX0_meets 16 = .ok (.getfield 15, 3) := by decide +kernel
theorem dX0_meets_19 : decode cX0_meets 19 = .ok (.iload_n 2, 1) := by decide +kernel
theorem dX0_meets_20 : decode cX0_meets 20 = .ok (.iaload, 1) := by decide +kernel
theorem dX0_meets_21 : decode cX0_meets 21 = .ok (.invokevirtual 87, 3) := by decide +kernel
theorem dX0_meets_24 : decode cX0_meets 24 = .ok (.ifCond .eq 7, 3) := by decide +kernel
theorem dX0_meets_27 : decode cX0_meets 27 = .ok (.iconst 1, 1) := by decide +kernel
theorem dX0_meets_28 : decode cX0_meets 28 = .ok (.goto 4, 3) := by decide +kernel
theorem dX0_meets_31 : decode cX0_meets 31 = .ok (.iconst 0, 1) := by decide +kernel
theorem dX0_meets_32 : decode cX0_meets 32 = .ok (.ireturn, 1) := by decide +kernel
set_option maxRecDepth 20000 in
theorem ggX0_crosses_X0_meets : GoodIn wsX0_crosses wsX0_meets := goodIn_r _ [7, 1, 2, 8, 9, 10, 11, 12, 13, 6, 14, 15, 16, 17, 18, 19, 20] (by decide +kernel) (by decide +kernel)
set_option maxRecDepth 20000 in
theorem gX0_crosses_X0_meets : GoodIn wsX0_crosses (wsV RX0 91 RX0 yX0_meets wsX0_meets) := goodIn_app (goodIn_of _ (by decide +kernel)) ggX0_crosses_X0_meets
theorem dX0_crosses_0 : decode cX0_crosses 0 = .ok (.iload_n 2, 1) := by decide +kernel
theorem dX0_crosses_1 : decode cX0_crosses 1 = .ok (.iconst 1, 1) := by decide +kernel
theorem dX0_crosses_2 : decode cX0_crosses 2 = .ok (.if_icmp .lt 20, 3) := by decide +kernel
theorem dX0_crosses_5 : decode cX0_crosses 5 = .ok (.iload_n 2, 1) := by decide +kernel
theorem dX0_crosses_6 : decode cX0_crosses 6 = .ok (.bipush 10, 2) := by decide +kernel
theorem dX0_crosses_8 : decode cX0_crosses 8 = .ok (.if_icmp .gt 14, 3) := by decide +kernel
theorem dX0_crosses_11 : decode cX0_crosses 11 = .ok (.aload_n 0, 1) := by decide +kernel
theorem dX0_crosses_12 : decode cX0_crosses 12 = .ok (.aload_n 1, 1) := by decide +kernel
theorem dX0_crosses_13 : decode cX0_crosses 13 = .ok (.iload_n 2, 1) := by decide +kernel
theorem dX0_crosses_14 : decode cX0_crosses 14 = .ok (.iconst 1, 1) := by decide +kernel
theorem dX0_crosses_15 : decode cX0_crosses 15 = .ok (.isub, 1) := by decide +kernel
theorem dX0_crosses_16 : decode cX0_crosses 16 = .ok (.invokevirtual 91, 3) := by decide +kernel
theorem dX0_crosses_19 : decode cX0_crosses 19 = .ok (.ifCond .eq 5, 3) := by decide +kernel
theorem dX0_crosses_22 : decode cX0_crosses 22 = .ok (.iconst 0, 1) := by decide +kernel
theorem dX0_crosses_23 : decode cX0_crosses 23 = .ok (.ireturn, 1) := by decide +kernel
theorem dX0_crosses_24 : decode cX0_crosses 24 = .ok (.aload_n 0, 1) := by decide +kernel
theorem dX0_crosses_25 : decode cX0_crosses 25 = .ok (.getfield 9, 3) := by decide +kernel
theorem dX0_crosses_28 : decode cX0_crosses 28 = .ok (.iload_n 2, 1) := by decide +kernel
theorem dX0_crosses_29 : decode cX0_crosses 29 = .ok (.iconst 1, 1) := by decide +kernel
theorem dX0_crosses_30 : decode cX0_crosses 30 = .ok (.isub, 1) := by decide +kernel
theorem dX0_crosses_31 : decode cX0_crosses 31 = .ok (.iaload, 1) := by decide +kernel
theorem dX0_crosses_32 : decode cX0_crosses 32 = .ok (.aload_n 0, 1) := by decide +kernel
theorem dX0_crosses_33 : decode cX0_crosses 33 = .ok (.getfield 9, 3) := by decide +kernel
theorem dX0_crosses_36 : decode cX0_crosses 36 = .ok (.iload_n 2, 1) := by decide +kernel
theorem dX0_crosses_37 : decode cX0_crosses 37 = .ok (.iaload, 1) := by decide +kernel
theorem dX0_crosses_38 : decode cX0_crosses 38 = .ok (.iadd, 1) := by decide +kernel
theorem dX0_crosses_39 : decode cX0_crosses 39 = .ok (.aload_n 1, 1) := by decide +kernel
theorem dX0_crosses_40 : decode cX0_crosses 40 = .ok (.getfield 9, 3) := by decide +kernel
theorem dX0_crosses_43 : decode cX0_crosses 43 = .ok (.iload_n 2, 1) := by decide +kernel
theorem dX0_crosses_44 : decode cX0_crosses 44 = .ok (.iconst 1, 1) := by decide +kernel
theorem dX0_crosses_45 : decode cX0_crosses 45 = .ok (.isub, 1) := by decide +kernel
theorem dX0_crosses_46 : decode cX0_crosses 46 = .ok (.iaload, 1) := by decide +kernel
theorem dX0_crosses_47 : decode cX0_crosses 47 = .ok (.aload_n 1, 1) := by decide +kernel
theorem dX0_crosses_48 : decode cX0_crosses 48 = .ok (.getfield 9, 3) := by decide +kernel
theorem dX0_crosses_51 : decode cX0_crosses 51 = .ok (.iload_n 2, 1) := by decide +kernel
theorem dX0_crosses_52 : decode cX0_crosses 52 = .ok (.iaload, 1) := by decide +kernel
theorem dX0_crosses_53 : decode cX0_crosses 53 = .ok (.iadd, 1) := by decide +kernel
theorem dX0_crosses_54 : decode cX0_crosses 54 = .ok (.if_icmp .ne 40, 3) := by decide +kernel
theorem dX0_crosses_57 : decode cX0_crosses 57 = .ok (.aload_n 0, 1) := by decide +kernel
theorem dX0_crosses_58 : decode cX0_crosses 58 = .ok (.getfield 15, 3) := by decide +kernel
theorem dX0_crosses_61 : decode cX0_crosses 61 = .ok (.iload_n 2, 1) := by decide +kernel
theorem dX0_crosses_62 : decode cX0_crosses 62 = .ok (.iconst 1, 1) := by decide +kernel
theorem dX0_crosses_63 : decode cX0_crosses 63 = .ok (.isub, 1) := by decide +kernel
theorem dX0_crosses_64 : decode cX0_crosses 64 = .ok (.iaload, 1) := by decide +kernel
theorem dX0_crosses_65 : decode cX0_crosses 65 = .ok (.aload_n 0, 1) := by decide +kernel
theorem dX0_crosses_66 : decode cX0_crosses 66 = .ok (.getfield 15, 3) := by decide +kernel
theorem dX0_crosses_69 : decode cX0_crosses 69 = .ok (.iload_n 2, 1) := by decide +kernel
theorem dX0_crosses_70 : decode cX0_crosses 70 = .ok (.iaload, 1) := by decide +kernel
theorem dX0_crosses_71 : decode cX0_crosses 71 = .ok (.iadd, 1) := by decide +kernel
theorem dX0_crosses_72 : decode cX0_crosses 72 = .ok (.aload_n 1, 1) := by decide +kernel
theorem dX0_crosses_73 : decode cX0_crosses 73 = .ok (.getfield 15, 3) := by decide +kernel
theorem dX0_crosses_76 : decode cX0_crosses 76 = .ok (.iload_n 2, 1) := by decide +kernel
theorem dX0_crosses_77 : decode cX0_crosses 77 = .ok (.iconst 1, 1) := by decide +kernel
theorem dX0_crosses_78 : decode cX0_crosses 78 = .ok (.isub, 1) := by decide +kernel
theorem dX0_crosses_79 : decode cX0_crosses 79 = .ok (.iaload, 1) := by decide +kernel
theorem dX0_crosses_80 : decode cX0_crosses 80 = .ok (.aload_n 1, 1) := by decide +kernel
theorem dX0_crosses_81 : decode cX0_crosses 81 = .ok (.getfield 15, 3) := by decide +kernel
theorem dX0_crosses_84 : decode cX0_crosses 84 = .ok (.iload_n 2, 1) := by decide +kernel
theorem dX0_crosses_85 : decode cX0_crosses 85 = .ok (.iaload, 1) := by decide +kernel
theorem dX0_crosses_86 : decode cX0_crosses 86 = .ok (.iadd, 1) := by decide +kernel
theorem dX0_crosses_87 : decode cX0_crosses 87 = .ok (.if_icmp .ne 7, 3) := by decide +kernel
theorem dX0_crosses_90 : decode cX0_crosses 90 = .ok (.iconst 1, 1) := by decide +kernel
theorem dX0_crosses_91 : decode cX0_crosses 91 = .ok (.goto 4, 3) := by decide +kernel
theorem dX0_crosses_94 : decode cX0_crosses 94 = .ok (.iconst 0, 1) := by decide +kernel
theorem dX0_crosses_95 : decode cX0_crosses 95 = .ok (.ireturn, 1) := by decide +kernel
theorem dX1_init_0 : decode cX1_init 0 = .ok (.aload_n 0, 1) := by decide +kernel
theorem dX1_init_1 : decode cX1_init 1 = .ok (.invokespecial 3, 3) := by decide +kernel
theorem dX1_init_4 : decode cX1_init 4 = .ok (.aload_n 0, 1) := by decide +kernel
theorem dX1_init_5 : decode cX1_init 5 = .ok (.bipush 100, 2) := by decide +kernel
theorem dX1_init_7 : decode cX1_init 7 = .ok (.newarray .int, 2) := by decide +kernel
theorem dX1_init_9 : decode cX1_init 9 = .ok (.putfield 9, 3) := by decide +kernel
theorem dX1_init_12 : decode cX1_init 12 = .ok (.aload_n 0, 1) := by decide +kernel
theorem dX1_init_13 : decode cX1_init 13 = .ok (.bipush 10, 2) := by decide +kernel
theorem dX1_init_15 : decode cX1_init 15 = .ok (.newarray .int, 2) := by decide +kernel
theorem dX1_init_17 : decode cX1_init 17 = .ok (.putfield 15, 3) := by decide +kernel
theorem dX1_init_20 : decode cX1_init 20 = .ok (.aload_n 0, 1) := by decide +kernel
theorem dX1_init_21 : decode cX1_init 21 = .ok (.bipush 10, 2) := by decide +kernel
theorem dX1_init_23 : decode cX1_init 23 = .ok (.newarray .int, 2) := by decide +kernel
theorem dX1_init_25 : decode cX1_init 25 = .ok (.putfield 18, 3) := by decide +kernel
theorem dX1_init_28 : decode cX1_init 28 = .ok (.aload_n 0, 1) := by decide +kernel
theorem dX1_init_29 : decode cX1_init 29 = .ok (.iconst 0, 1) := by decide +kernel
theorem dX1_init_30 : decode cX1_init 30 = .ok (.putfield 21, 3) := by decide +kernel
theorem dX1_init_33 : decode cX1_init 33 = .ok (.aload_n 0, 1) := by decide +kernel
theorem dX1_init_34 : decode cX1_init 34 = .ok (.iconst 0, 1) := by decide +kernel
theorem dX1_init_35 : decode cX1_init 35 = .ok (.putfield 25, 3) := by decide +kernel
theorem dX1_init_38 : decode cX1_init 38 = .ok (.return_, 1) := by decide +kernel
theorem dX1_empty_0 : decode cX1_empty 0 = .ok (.aload_n 0, 1) := by decide +kernel
theorem dX1_empty_1 : decode cX1_empty 1 = .ok (.iconst 0, 1) := by decide +kernel
theorem dX1_empty_2 : decode cX1_empty 2 = .ok (.putfield 25, 3) := by decide +kernel
theorem dX1_empty_5 : decode cX1_empty 5 = .ok (.return_, 1) := by decide +kernel
set_option maxRecDepth 20000 in
theorem ggX1_remember_X1_slotBehind : GoodIn wsX1_remember wsX1_slotBehind := goodIn_r _ [10, 2, 11, 12, 13, 14, 33, 34, 35, 36, 37] (by decide +kernel) (by decide +kernel)
set_option maxRecDepth 20000 in
theorem gX1_remember_X1_slotBehind : GoodIn wsX1_remember (wsV RX1 28 RX1 yX1_slotBehind wsX1_slotBehind) := goodIn_app (goodIn_of _ (by decide +kernel)) ggX1_remember_X1_slotBehind
set_option maxRecDepth 20000 in
theorem ggX1_remember_X5_lengthOf : GoodIn wsX1_remember wsX5_lengthOf := goodIn_r _ [19, 20, 21, 22, 18, 23, 38, 39] (by decide +kernel) (by decide +kernel)
set_option maxRecDepth 20000 in
theorem gX1_remember_X5_lengthOf : GoodIn wsX1_remember (wsV RX1 32 RX5 yX5_lengthOf wsX5_lengthOf) := goodIn_app (goodIn_of _ (by decide +kernel)) ggX1_remember_X5_lengthOf
set_option maxRecDepth 20000 in
theorem ggX1_remember_X5_signAt : GoodIn wsX1_remember wsX5_signAt := goodIn_r _ [27, 28, 29, 30, 31, 18, 32, 20, 21, 22, 23, 38, 39] (by decide +kernel) (by decide +kernel)
set_option maxRecDepth 20000 in
theorem gX1_remember_X5_signAt : GoodIn wsX1_remember (wsV RX1 37 RX5 yX5_signAt wsX5_signAt) := goodIn_app (goodIn_of _ (by decide +kernel)) ggX1_remember_X5_signAt
theorem dX1_remember_0 : decode cX1_remember 0 = .ok (.aload_n 0, 1) := by decide +kernel
theorem dX1_remember_1 : decode cX1_remember 1 = .ok (.aload_n 0, 1) := by decide +kernel
theorem dX1_remember_2 : decode cX1_remember 2 = .ok (.getfield 25, 3) := by decide +kernel
theorem dX1_remember_5 : decode cX1_remember 5 = .ok (.invokevirtual 28, 3) := by decide +kernel
theorem dX1_remember_8 : decode cX1_remember 8 = .ok (.istore_n 3, 1) := by decide +kernel
theorem dX1_remember_9 : decode cX1_remember 9 = .ok (.aload_n 0, 1) := by decide +kernel
theorem dX1_remember_10 : decode cX1_remember 10 = .ok (.getfield 25, 3) := by decide +kernel
theorem dX1_remember_13 : decode cX1_remember 13 = .ok (.bipush 10, 2) := by decide +kernel
theorem dX1_remember_15 : decode cX1_remember 15 = .ok (.if_icmp .ge 16, 3) := by decide +kernel
theorem dX1_remember_18 : decode cX1_remember 18 = .ok (.aload_n 0, 1) := by decide +kernel
theorem dX1_remember_19 : decode cX1_remember 19 = .ok (.dup, 1) := by decide +kernel
theorem dX1_remember_20 : decode cX1_remember 20 = .ok (.getfield 25, 3) := by decide +kernel
theorem dX1_remember_23 : decode cX1_remember 23 = .ok (.iconst 1, 1) := by decide +kernel
theorem dX1_remember_24 : decode cX1_remember 24 = .ok (.iadd, 1) := by decide +kernel
theorem dX1_remember_25 : decode cX1_remember 25 = .ok (.putfield 25, 3) := by decide +kernel
theorem dX1_remember_28 : decode cX1_remember 28 = .ok (.goto 12, 3) := by decide +kernel
theorem dX1_remember_31 : decode cX1_remember 31 = .ok (.aload_n 0, 1) := by decide +kernel
theorem dX1_remember_32 : decode cX1_remember 32 = .ok (.aload_n 0, 1) := by decide +kernel
theorem dX1_remember_33 : decode cX1_remember 33 = .ok (.iconst 1, 1) := by decide +kernel
theorem dX1_remember_34 : decode cX1_remember 34 = .ok (.invokevirtual 28, 3) := by decide +kernel
theorem dX1_remember_37 : decode cX1_remember 37 = .ok (.putfield 21, 3) := by decide +kernel
theorem dX1_remember_40 : decode cX1_remember 40 = .ok (.aload_n 0, 1) := by decide +kernel
theorem dX1_remember_41 : decode cX1_remember 41 = .ok (.getfield 18, 3) := by decide +kernel
theorem dX1_remember_44 : decode cX1_remember 44 = .ok (.iload_n 3, 1) := by decide +kernel
theorem dX1_remember_45 : decode cX1_remember 45 = .ok (.iload_n 2, 1) := by decide +kernel
theorem dX1_remember_46 : decode cX1_remember 46 = .ok (.iastore, 1) := by decide +kernel
theorem dX1_remember_47 : decode cX1_remember 47 = .ok (.aload_n 0, 1) := by decide +kernel
theorem dX1_remember_48 : decode cX1_remember 48 = .ok (.getfield 15, 3) := by decide +kernel
theorem dX1_remember_51 : decode cX1_remember 51 = .ok (.iload_n 3, 1) := by decide +kernel
theorem dX1_remember_52 : decode cX1_remember 52 = .ok (.aload_n 1, 1) := by decide +kernel
theorem dX1_remember_53 : decode cX1_remember 53 = .ok (.iload_n 2, 1) := by decide +kernel
theorem dX1_remember_54 : decode cX1_remember 54 = .ok (.invokevirtual 32, 3) := by decide +kernel
theorem dX1_remember_57 : decode cX1_remember 57 = .ok (.iastore, 1) := by decide +kernel
theorem dX1_remember_58 : decode cX1_remember 58 = .ok (.iconst 0, 1) := by decide +kernel
theorem dX1_remember_59 : decode cX1_remember 59 = .ok (.istore 4, 2) := by decide +kernel
theorem dX1_remember_61 : decode cX1_remember 61 = .ok (.iload 4, 2) := by decide +kernel
theorem dX1_remember_63 : decode cX1_remember 63 = .ok (.bipush 10, 2) := by decide +kernel
theorem dX1_remember_65 : decode cX1_remember 65 = .ok (.if_icmp .ge 28, 3) := by decide +kernel
theorem dX1_remember_68 : decode cX1_remember 68 = .ok (.aload_n 0, 1) := by decide +kernel
theorem dX1_remember_69 : decode cX1_remember 69 = .ok (.getfield 9, 3) := by decide +kernel
theorem dX1_remember_72 : decode cX1_remember 72 = .ok (.iload_n 3, 1) := by decide +kernel
theorem dX1_remember_73 : decode cX1_remember 73 = .ok (.bipush 10, 2) := by decide +kernel
theorem dX1_remember_75 : decode cX1_remember 75 = .ok (.imul, 1) := by decide +kernel
theorem dX1_remember_76 : decode cX1_remember 76 = .ok (.iload 4, 2) := by decide +kernel
theorem dX1_remember_78 : decode cX1_remember 78 = .ok (.iadd, 1) := by decide +kernel
theorem dX1_remember_79 : decode cX1_remember 79 = .ok (.aload_n 1, 1) := by decide +kernel
theorem dX1_remember_80 : decode cX1_remember 80 = .ok (.iload_n 2, 1) := by decide +kernel
theorem dX1_remember_81 : decode cX1_remember 81 = .ok (.iload 4, 2) := by decide +kernel
theorem dX1_remember_83 : decode cX1_remember 83 = .ok (.invokevirtual 37, 3) := by decide +kernel
theorem dX1_remember_86 : decode cX1_remember 86 = .ok (.iastore, 1) := by decide +kernel
theorem dX1_remember_87 : decode cX1_remember 87 = .ok (.iinc 4 1, 3) := by decide +kernel
theorem dX1_remember_90 : decode cX1_remember 90 = .ok (.goto (-29), 3) := by decide +kernel
theorem dX1_remember_93 : decode cX1_remember 93 = .ok (.return_, 1) := by decide +kernel
set_option maxRecDepth 20000 in
theorem ggX1_revert_X1_slotBehind : GoodIn wsX1_revert wsX1_slotBehind := goodIn_r _ [9, 10, 11, 12, 13, 14, 33, 34, 35, 36, 37] (by decide +kernel) (by decide +kernel)
set_option maxRecDepth 20000 in
theorem gX1_revert_X1_slotBehind : GoodIn wsX1_revert (wsV RX1 28 RX1 yX1_slotBehind wsX1_slotBehind) := goodIn_app (goodIn_of _ (by decide +kernel)) ggX1_revert_X1_slotBehind
set_option maxRecDepth 20000 in
theorem ggX1_revert_X5_setLength : GoodIn wsX1_revert wsX5_setLength := goodIn_r _ [19, 20, 21, 22, 18, 23, 38, 39] (by decide +kernel) (by decide +kernel)
set_option maxRecDepth 20000 in
theorem gX1_revert_X5_setLength : GoodIn wsX1_revert (wsV RX1 41 RX5 yX5_setLength wsX5_setLength) := goodIn_app (goodIn_of _ (by decide +kernel)) ggX1_revert_X5_setLength
set_option maxRecDepth 20000 in
theorem ggX1_revert_X5_replace : GoodIn wsX1_revert wsX5_replace := goodIn_r _ [27, 28, 29, 30, 31, 18, 32, 20, 21, 22, 23, 38, 39] (by decide +kernel) (by decide +kernel)
set_option maxRecDepth 20000 in
theorem gX1_revert_X5_replace : GoodIn wsX1_revert (wsV RX1 45 RX5 yX5_replace wsX5_replace) := goodIn_app (goodIn_of _ (by decide +kernel)) ggX1_revert_X5_replace
theorem dX1_revert_0 : decode cX1_revert 0 = .ok (.aload_n 0, 1) := by decide +kernel
theorem dX1_revert_1 : decode cX1_revert 1 = .ok (.getfield 25, 3) := by decide +kernel
theorem dX1_revert_4 : decode cX1_revert 4 = .ok (.ifCond .ne 4, 3) := by decide +kernel
theorem dX1_revert_7 : decode cX1_revert 7 = .ok (.return_, 1) := by decide +kernel
theorem dX1_revert_8 : decode cX1_revert 8 = .ok (.aload_n 0, 1) := by decide +kernel
theorem dX1_revert_9 : decode cX1_revert 9 = .ok (.dup, 1) := by decide +kernel
theorem dX1_revert_10 : decode cX1_revert 10 = .ok (.getfield 25, 3) := by decide +kernel
theorem dX1_revert_13 : decode cX1_revert 13 = .ok (.iconst 1, 1) := by decide +kernel
theorem dX1_revert_14 : decode cX1_revert 14 = .ok (.isub, 1) := by decide +kernel
theorem dX1_revert_15 : decode cX1_revert 15 = .ok (.putfield 25, 3) := by decide +kernel
theorem dX1_revert_18 : decode cX1_revert 18 = .ok (.aload_n 0, 1) := by decide +kernel
theorem dX1_revert_19 : decode cX1_revert 19 = .ok (.aload_n 0, 1) := by decide +kernel
theorem dX1_revert_20 : decode cX1_revert 20 = .ok (.getfield 25, 3) := by decide +kernel
theorem dX1_revert_23 : decode cX1_revert 23 = .ok (.invokevirtual 28, 3) := by decide +kernel
theorem dX1_revert_26 : decode cX1_revert 26 = .ok (.istore_n 2, 1) := by decide +kernel
theorem dX1_revert_27 : decode cX1_revert 27 = .ok (.aload_n 0, 1) := by decide +kernel
theorem dX1_revert_28 : decode cX1_revert 28 = .ok (.getfield 18, 3) := by decide +kernel
theorem dX1_revert_31 : decode cX1_revert 31 = .ok (.iload_n 2, 1) := by decide +kernel
theorem dX1_revert_32 : decode cX1_revert 32 = .ok (.iaload, 1) := by decide +kernel
theorem dX1_revert_33 : decode cX1_revert 33 = .ok (.istore_n 3, 1) := by decide +kernel
theorem dX1_revert_34 : decode cX1_revert 34 = .ok (.aload_n 1, 1) := by decide +kernel
theorem dX1_revert_35 : decode cX1_revert 35 = .ok (.iload_n 3, 1) := by decide +kernel
theorem dX1_revert_36 : decode cX1_revert 36 = .ok (.aload_n 0, 1) := by decide +kernel
theorem dX1_revert_37 : decode cX1_revert 37 = .ok (.getfield 15, 3) := by decide +kernel
theorem dX1_revert_40 : decode cX1_revert 40 = .ok (.iload_n 2, 1) := by decide +kernel
theorem dX1_revert_41 : decode cX1_revert 41 = .ok (.iaload, 1) := by decide +kernel
theorem dX1_revert_42 : decode cX1_revert 42 = .ok (.invokevirtual 41, 3) := by decide +kernel
theorem dX1_revert_45 : decode cX1_revert 45 = .ok (.iconst 0, 1) := by decide +kernel
theorem dX1_revert_46 : decode cX1_revert 46 = .ok (.istore 4, 2) := by decide +kernel
theorem dX1_revert_48 : decode cX1_revert 48 = .ok (.iload 4, 2) := by decide +kernel
theorem dX1_revert_50 : decode cX1_revert 50 = .ok (.bipush 10, 2) := by decide +kernel
theorem dX1_revert_52 : decode cX1_revert 52 = .ok (.if_icmp .ge 28, 3) := by decide +kernel
theorem dX1_revert_55 : decode cX1_revert 55 = .ok (.aload_n 1, 1) := by decide +kernel
theorem dX1_revert_56 : decode cX1_revert 56 = .ok (.iload_n 3, 1) := by decide +kernel
theorem dX1_revert_57 : decode cX1_revert 57 = .ok (.iload 4, 2) := by decide +kernel
theorem dX1_revert_59 : decode cX1_revert 59 = .ok (.aload_n 0, 1) := by decide +kernel
theorem dX1_revert_60 : decode cX1_revert 60 = .ok (.getfield 9, 3) := by decide +kernel
theorem dX1_revert_63 : decode cX1_revert 63 = .ok (.iload_n 2, 1) := by decide +kernel
theorem dX1_revert_64 : decode cX1_revert 64 = .ok (.bipush 10, 2) := by decide +kernel
theorem dX1_revert_66 : decode cX1_revert 66 = .ok (.imul, 1) := by decide +kernel
theorem dX1_revert_67 : decode cX1_revert 67 = .ok (.iload 4, 2) := by decide +kernel
theorem dX1_revert_69 : decode cX1_revert 69 = .ok (.iadd, 1) := by decide +kernel
theorem dX1_revert_70 : decode cX1_revert 70 = .ok (.iaload, 1) := by decide +kernel
theorem dX1_revert_71 : decode cX1_revert 71 = .ok (.invokevirtual 45, 3) := by decide +kernel
theorem dX1_revert_74 : decode cX1_revert 74 = .ok (.iinc 4 1, 3) := by decide +kernel
theorem dX1_revert_77 : decode cX1_revert 77 = .ok (.goto (-29), 3) := by decide +kernel
theorem dX1_revert_80 : decode cX1_revert 80 = .ok (.return_, 1) := by decide +kernel
set_option maxRecDepth 20000 in
theorem ggX1_slotBehind_J9_floorMod_7cf53 : GoodIn wsX1_slotBehind wsJ9_floorMod_7cf53 := goodIn_r _ [5] (by decide +kernel) (by decide +kernel)
set_option maxRecDepth 20000 in
theorem gX1_slotBehind_J9_floorMod_7cf53 : GoodIn wsX1_slotBehind (va_wsS RX1 49 yJ9_floorMod_7cf53 wsJ9_floorMod_7cf53) := goodIn_app (goodIn_of _ (by decide +kernel)) ggX1_slotBehind_J9_floorMod_7cf53
theorem dX1_slotBehind_0 : decode cX1_slotBehind 0 = .ok (.aload_n 0, 1) := by decide +kernel
theorem dX1_slotBehind_1 : decode cX1_slotBehind 1 = .ok (.getfield 21, 3) := by decide +kernel
theorem dX1_slotBehind_4 : decode cX1_slotBehind 4 = .ok (.iload_n 1, 1) := by decide +kernel
theorem dX1_slotBehind_5 : decode cX1_slotBehind 5 = .ok (.iadd, 1) := by decide +kernel
theorem dX1_slotBehind_6 : decode cX1_slotBehind 6 = .ok (.bipush 10, 2) := by decide +kernel
theorem dX1_slotBehind_8 : decode cX1_slotBehind 8 = .ok (.invokestatic 49, 3) := by decide +kernel
theorem dX1_slotBehind_11 : decode cX1_slotBehind 11 = .ok (.ireturn, 1) := by decide +kernel
set_option maxRecDepth 20000 in
theorem ggX2_init_X5_init : GoodIn wsX2_init wsX5_init := goodIn_r _ [10, 11, 2, 3, 12, 13, 14, 15, 16] (by decide +kernel) (by decide +kernel)
set_option maxRecDepth 20000 in
theorem gX2_init_X5_init_n9 : GoodIn wsX2_init (wsX5_init) := ggX2_init_X5_init
theorem dX2_init_0 : decode cX2_init 0 = .ok (.aload_n 0, 1) := by decide +kernel
theorem dX2_init_1 : decode cX2_init 1 = .ok (.invokespecial 1, 3) := by decide +kernel
theorem dX2_init_4 : decode cX2_init 4 = .ok (.aload_n 0, 1) := by decide +kernel
theorem dX2_init_5 : decode cX2_init 5 = .ok (.new 7, 3) := by decide +kernel
theorem dX2_init_8 : decode cX2_init 8 = .ok (.dup, 1) := by decide +kernel
theorem dX2_init_9 : decode cX2_init 9 = .ok (.invokespecial 9, 3) := by decide +kernel
theorem dX2_init_12 : decode cX2_init 12 = .ok (.putfield 10, 3) := by decide +kernel
theorem dX2_init_15 : decode cX2_init 15 = .ok (.aload_n 0, 1) := by decide +kernel
theorem dX2_init_16 : decode cX2_init 16 = .ok (.iconst 0, 1) := by decide +kernel
theorem dX2_init_17 : decode cX2_init 17 = .ok (.putfield 16, 3) := by decide +kernel
theorem dX2_init_20 : decode cX2_init 20 = .ok (.return_, 1) := by decide +kernel
set_option maxRecDepth 20000 in
theorem ggX2_take_X5_copyFrom : GoodIn wsX2_take wsX5_copyFrom := goodIn_r _ [7, 8, 9, 10, 6, 11, 12, 13, 14, 15, 16, 17, 18, 19, 20, 21, 22, 23, 24, 25, 26, 27, 28, 29, 30, 31, 32, 35, 36] (by decide +kernel) (by decide +kernel)
set_option maxRecDepth 20000 in
theorem gX2_take_X5_copyFrom : GoodIn wsX2_take (wsV RX2 20 RX5 yX5_copyFrom wsX5_copyFrom) := goodIn_app (goodIn_of _ (by decide +kernel)) ggX2_take_X5_copyFrom
theorem dX2_take_0 : decode cX2_take 0 = .ok (.aload_n 0, 1) := by decide +kernel
theorem dX2_take_1 : decode cX2_take 1 = .ok (.getfield 10, 3) := by decide +kernel
theorem dX2_take_4 : decode cX2_take 4 = .ok (.aload_n 1, 1) := by decide +kernel
theorem dX2_take_5 : decode cX2_take 5 = .ok (.invokevirtual 20, 3) := by decide +kernel
theorem dX2_take_8 : decode cX2_take 8 = .ok (.aload_n 0, 1) := by decide +kernel
theorem dX2_take_9 : decode cX2_take 9 = .ok (.iconst 1, 1) := by decide +kernel
theorem dX2_take_10 : decode cX2_take 10 = .ok (.putfield 16, 3) := by decide +kernel
theorem dX2_take_13 : decode cX2_take 13 = .ok (.return_, 1) := by decide +kernel
theorem dX2_drop_0 : decode cX2_drop 0 = .ok (.aload_n 0, 1) := by decide +kernel
theorem dX2_drop_1 : decode cX2_drop 1 = .ok (.iconst 0, 1) := by decide +kernel
theorem dX2_drop_2 : decode cX2_drop 2 = .ok (.putfield 16, 3) := by decide +kernel
theorem dX2_drop_5 : decode cX2_drop 5 = .ok (.return_, 1) := by decide +kernel
theorem dX3_init_0 : decode cX3_init 0 = .ok (.aload_n 0, 1) := by decide +kernel
theorem dX3_init_1 : decode cX3_init 1 = .ok (.invokespecial 3, 3) := by decide +kernel
theorem dX3_init_4 : decode cX3_init 4 = .ok (.return_, 1) := by decide +kernel
set_option maxRecDepth 20000 in
theorem ggX3_read_X8_empty : GoodIn wsX3_read wsX8_empty := goodIn_r _ [8, 9, 10, 11, 12, 13, 14, 15, 16, 77, 78, 79, 80, 81, 82, 83] (by decide +kernel) (by decide +kernel)
set_option maxRecDepth 20000 in
theorem gX3_read_X8_empty : GoodIn wsX3_read (wsV RX3 9 RX8 yX8_empty wsX8_empty) := goodIn_app (goodIn_of _ (by decide +kernel)) ggX3_read_X8_empty
set_option maxRecDepth 20000 in
theorem ggX3_read_X3_advance : GoodIn wsX3_read wsX3_advance := goodIn_r _ [21, 1, 3, 2, 22, 23, 24, 25, 26, 27, 28, 29, 30, 31, 32, 33, 34, 20, 35, 74, 75, 76, 84, 85] (by decide +kernel) (by decide +kernel)
set_option maxRecDepth 20000 in
theorem gX3_read_X3_advance : GoodIn wsX3_read (wsV RX3 20 RX3 yX3_advance wsX3_advance) := goodIn_app (goodIn_of _ (by decide +kernel)) ggX3_read_X3_advance
set_option maxRecDepth 20000 in
theorem ggX3_read_X3_readItem : GoodIn wsX3_read wsX3_readItem := goodIn_r _ [39, 2, 40, 41, 42, 20, 43, 17, 18, 19, 21, 1, 3, 22, 23, 24, 25, 26, 27, 28, 29, 30, 31, 32, 33, 34, 35, 44, 45, 46, 7, 47, 9, 48, 49, 50, 51, 52, 53, 54, 55, 56, 57, 58, 59, 60, 14, 61, 16, 62, 63, 64, 65, 66, 67, 68, 69, 70, 71, 72, 73, 74, 75, 76, 77, 78, 79, 80, 81, 84, 85, 82, 83] (by decide +kernel) (by decide +kernel)
set_option maxRecDepth 20000 in
theorem gX3_read_X3_readItem : GoodIn wsX3_read (wsV RX3 27 RX3 yX3_readItem wsX3_readItem) := goodIn_app (goodIn_of _ (by decide +kernel)) ggX3_read_X3_readItem
theorem dX3_read_0 : decode cX3_read 0 = .ok (.aload_n 2, 1) := by decide +kernel
theorem dX3_read_1 : decode cX3_read 1 = .ok (.invokevirtual 9, 3) := by decide +kernel
theorem dX3_read_4 : decode cX3_read 4 = .ok (.aload_n 0, 1) := by decide +kernel
theorem dX3_read_5 : decode cX3_read 5 = .ok (.iconst 0, 1) := by decide +kernel
theorem dX3_read_6 : decode cX3_read 6 = .ok (.putfield 14, 3) := by decide +kernel
theorem dX3_read_9 : decode cX3_read 9 = .ok (.aload_n 0, 1) := by decide +kernel
theorem dX3_read_10 : decode cX3_read 10 = .ok (.aload_n 1, 1) := by decide +kernel
theorem dX3_read_11 : decode cX3_read 11 = .ok (.invokevirtual 20, 3) := by decide +kernel
theorem dX3_read_14 : decode cX3_read 14 = .ok (.iconst 0, 1) := by decide +kernel
theorem dX3_read_15 : decode cX3_read 15 = .ok (.istore_n 3, 1) := by decide +kernel
theorem dX3_read_16 : decode cX3_read 16 = .ok (.iload_n 3, 1) := by decide +kernel
theorem dX3_read_17 : decode cX3_read 17 = .ok (.iconst 3, 1) := by decide +kernel
theorem dX3_read_18 : decode cX3_read 18 = .ok (.if_icmp .ge 40, 3) := by decide +kernel
theorem dX3_read_21 : decode cX3_read 21 = .ok (.aload_n 0, 1) := by decide +kernel
theorem dX3_read_22 : decode cX3_read 22 = .ok (.getfield 24, 3) := by decide +kernel
theorem dX3_read_25 : decode cX3_read 25 = .ok (.bipush (-9), 2) := by decide +kernel
theorem dX3_read_27 : decode cX3_read 27 = .ok (.if_icmp .eq 31, 3) := by decide +kernel
theorem dX3_read_30 : decode cX3_read 30 = .ok (.aload_n 0, 1) := by decide +kernel
theorem dX3_read_31 : decode cX3_read 31 = .ok (.aload_n 1, 1) := by decide +kernel
theorem dX3_read_32 : decode cX3_read 32 = .ok (.aload_n 2, 1) := by decide +kernel
theorem dX3_read_33 : decode cX3_read 33 = .ok (.invokevirtual 27, 3) := by decide +kernel
theorem dX3_read_36 : decode cX3_read 36 = .ok (.ifCond .ne 11, 3) := by decide +kernel
theorem dX3_read_39 : decode cX3_read 39 = .ok (.bipush (-10), 2) := by decide +kernel
theorem dX3_read_41 : decode cX3_read 41 = .ok (.aload_n 0, 1) := by decide +kernel
theorem dX3_read_42 : decode cX3_read 42 = .ok (.getfield 31, 3) := by decide +kernel
theorem dX3_read_45 : decode cX3_read 45 = .ok (.isub, 1) := by decide +kernel
theorem dX3_read_46 : decode cX3_read 46 = .ok (.ireturn, 1) := by decide +kernel
theorem dX3_read_47 : decode cX3_read 47 = .ok (.aload_n 0, 1) := by decide +kernel
theorem dX3_read_48 : decode cX3_read 48 = .ok (.aload_n 1, 1) := by decide +kernel
theorem dX3_read_49 : decode cX3_read 49 = .ok (.invokevirtual 20, 3) := by decide +kernel
theorem dX3_read_52 : decode cX3_read 52 = .ok (.iinc 3 1, 3) := by decide +kernel
theorem dX3_read_55 : decode cX3_read 55 = .ok (.goto (-39), 3) := by decide +kernel
theorem dX3_read_58 : decode cX3_read 58 = .ok (.aload_n 0, 1) := by decide +kernel
theorem dX3_read_59 : decode cX3_read 59 = .ok (.getfield 24, 3) := by decide +kernel
theorem dX3_read_62 : decode cX3_read 62 = .ok (.bipush (-9), 2) := by decide +kernel
theorem dX3_read_64 : decode cX3_read 64 = .ok (.if_icmp .ne 10, 3) := by decide +kernel
theorem dX3_read_67 : decode cX3_read 67 = .ok (.aload_n 2, 1) := by decide +kernel
theorem dX3_read_68 : decode cX3_read 68 = .ok (.getfield 34, 3) := by decide +kernel
theorem dX3_read_71 : decode cX3_read 71 = .ok (.goto 10, 3) := by decide +kernel
theorem dX3_read_74 : decode cX3_read 74 = .ok (.bipush (-10), 2) := by decide +kernel
theorem dX3_read_76 : decode cX3_read 76 = .ok (.aload_n 0, 1) := by decide +kernel
theorem dX3_read_77 : decode cX3_read 77 = .ok (.getfield 31, 3) := by decide +kernel
theorem dX3_read_80 : decode cX3_read 80 = .ok (.isub, 1) := by decide +kernel
theorem dX3_read_81 : decode cX3_read 81 = .ok (.ireturn, 1) := by decide +kernel
set_option maxRecDepth 20000 in
theorem ggX3_readItem_X3_readNumber : GoodIn wsX3_readItem wsX3_readNumber := goodIn_r _ [6, 1, 7, 8, 9, 5, 10, 11, 12, 13, 14, 15, 16, 17, 18, 19, 20, 21, 22, 23, 24, 25, 26, 61, 62, 63, 69, 70] (by decide +kernel) (by decide +kernel)
set_option maxRecDepth 20000 in
theorem gX3_readItem_X3_readNumber : GoodIn wsX3_readItem (wsV RX3 37 RX3 yX3_readNumber wsX3_readNumber) := goodIn_app (goodIn_of _ (by decide +kernel)) ggX3_readItem_X3_readNumber

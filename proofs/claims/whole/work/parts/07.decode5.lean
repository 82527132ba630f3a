theorem dX9_areTwo_25 : decode cX9_areTwo 25 = .ok (.iconst 0, 1) := by decide +kernel
theorem dX9_areTwo_26 : decode cX9_areTwo 26 = .ok (.ireturn, 1) := by decide +kernel
theorem dX9_isMoment_0 : decode cX9_isMoment 0 = .ok (.iload_n 0, 1) := by decide +kernel
theorem dX9_isMoment_1 : decode cX9_isMoment 1 = .ok (.ifCond .lt 13, 3) := by decide +kernel
theorem dX9_isMoment_4 : decode cX9_isMoment 4 = .ok (.iload_n 0, 1) := by decide +kernel
theorem dX9_isMoment_5 : decode cX9_isMoment 5 = .ok (.bipush 10, 2) := by decide +kernel
theorem dX9_isMoment_7 : decode cX9_isMoment 7 = .ok (.if_icmp .gt 7, 3) := by decide +kernel
theorem dX9_isMoment_10 : decode cX9_isMoment 10 = .ok (.iconst 1, 1) := by decide +kernel
theorem dX9_isMoment_11 : decode cX9_isMoment 11 = .ok (.goto 4, 3) := by decide +kernel
theorem dX9_isMoment_14 : decode cX9_isMoment 14 = .ok (.iconst 0, 1) := by decide +kernel
theorem dX9_isMoment_15 : decode cX9_isMoment 15 = .ok (.ireturn, 1) := by decide +kernel
theorem dX9_isSign_0 : decode cX9_isSign 0 = .ok (.iload_n 0, 1) := by decide +kernel
theorem dX9_isSign_1 : decode cX9_isSign 1 = .ok (.ifCond .lt 13, 3) := by decide +kernel
theorem dX9_isSign_4 : decode cX9_isSign 4 = .ok (.iload_n 0, 1) := by decide +kernel
theorem dX9_isSign_5 : decode cX9_isSign 5 = .ok (.bipush 32, 2) := by decide +kernel
theorem dX9_isSign_7 : decode cX9_isSign 7 = .ok (.if_icmp .gt 7, 3) := by decide +kernel
theorem dX9_isSign_10 : decode cX9_isSign 10 = .ok (.iconst 1, 1) := by decide +kernel
theorem dX9_isSign_11 : decode cX9_isSign 11 = .ok (.goto 4, 3) := by decide +kernel
theorem dX9_isSign_14 : decode cX9_isSign 14 = .ok (.iconst 0, 1) := by decide +kernel
theorem dX9_isSign_15 : decode cX9_isSign 15 = .ok (.ireturn, 1) := by decide +kernel
theorem dX9_isOnFloor_0 : decode cX9_isOnFloor 0 = .ok (.iload_n 0, 1) := by decide +kernel
theorem dX9_isOnFloor_1 : decode cX9_isOnFloor 1 = .ok (.ifCond .lt 23, 3) := by decide +kernel
theorem dX9_isOnFloor_4 : decode cX9_isOnFloor 4 = .ok (.iload_n 0, 1) := by decide +kernel
theorem dX9_isOnFloor_5 : decode cX9_isOnFloor 5 = .ok (.bipush 7, 2) := by decide +kernel
theorem dX9_isOnFloor_7 : decode cX9_isOnFloor 7 = .ok (.if_icmp .ge 17, 3) := by decide +kernel
theorem dX9_isOnFloor_10 : decode cX9_isOnFloor 10 = .ok (.iload_n 1, 1) := by decide +kernel
theorem dX9_isOnFloor_11 : decode cX9_isOnFloor 11 = .ok (.ifCond .lt 13, 3) := by decide +kernel
theorem dX9_isOnFloor_14 : decode cX9_isOnFloor 14 = .ok (.iload_n 1, 1) := by decide +kernel
theorem dX9_isOnFloor_15 : decode cX9_isOnFloor 15 = .ok (.bipush 7, 2) := by decide +kernel
theorem dX9_isOnFloor_17 : decode cX9_isOnFloor 17 = .ok (.if_icmp .ge 7, 3) := by decide +kernel
theorem dX9_isOnFloor_20 : decode cX9_isOnFloor 20 = .ok (.iconst 1, 1) := by decide +kernel
theorem dX9_isOnFloor_21 : decode cX9_isOnFloor 21 = .ok (.goto 4, 3) := by decide +kernel
theorem dX9_isOnFloor_24 : decode cX9_isOnFloor 24 = .ok (.iconst 0, 1) := by decide +kernel
theorem dX9_isOnFloor_25 : decode cX9_isOnFloor 25 = .ok (.ireturn, 1) := by decide +kernel
theorem dX9_imageOf_0 : decode cX9_imageOf 0 = .ok (.iload_n 1, 1) := by decide +kernel
theorem dX9_imageOf_1 : decode cX9_imageOf 1 = .ok (.ifCond .ne 10, 3) := by decide +kernel
theorem dX9_imageOf_4 : decode cX9_imageOf 4 = .ok (.aload_n 0, 1) := by decide +kernel
theorem dX9_imageOf_5 : decode cX9_imageOf 5 = .ok (.getfield 50, 3) := by decide +kernel
theorem dX9_imageOf_8 : decode cX9_imageOf 8 = .ok (.goto 7, 3) := by decide +kernel
theorem dX9_imageOf_11 : decode cX9_imageOf 11 = .ok (.aload_n 0, 1) := by decide +kernel
theorem dX9_imageOf_12 : decode cX9_imageOf 12 = .ok (.getfield 54, 3) := by decide +kernel
theorem dX9_imageOf_15 : decode cX9_imageOf 15 = .ok (.areturn, 1) := by decide +kernel
set_option maxRecDepth 20000 in
theorem ggX9_followBoth_X0_follow : GoodIn wsX9_followBoth wsX0_follow := goodIn_r _ [8, 9, 10, 11, 12, 13, 14, 15, 16, 17, 18, 19, 20, 21, 22, 23, 24, 25, 26, 27, 28, 29, 30, 31, 7, 32, 33, 34, 35, 36, 37, 38, 39, 40, 41, 42, 43, 44, 45, 46, 47, 48, 49, 50, 51, 52, 53, 54, 55, 56, 57, 58, 59, 60, 61, 62, 63, 64, 65, 66, 80, 81, 82, 83, 84, 85, 86, 87, 88, 89, 90, 91, 92, 93, 94, 95, 96] (by decide +kernel) (by decide +kernel)
set_option maxRecDepth 20000 in
theorem gX9_followBoth_X0_follow : GoodIn wsX9_followBoth (wsV RX9 117 RX0 yX0_follow wsX0_follow) := goodIn_app (goodIn_of _ (by decide +kernel)) ggX9_followBoth_X0_follow
theorem dX9_followBoth_0 : decode cX9_followBoth 0 = .ok (.aload_n 0, 1) := by decide +kernel
theorem dX9_followBoth_1 : decode cX9_followBoth 1 = .ok (.getfield 60, 3) := by decide +kernel
theorem dX9_followBoth_4 : decode cX9_followBoth 4 = .ok (.aload_n 0, 1) := by decide +kernel
theorem dX9_followBoth_5 : decode cX9_followBoth 5 = .ok (.getfield 26, 3) := by decide +kernel
theorem dX9_followBoth_8 : decode cX9_followBoth 8 = .ok (.iload_n 1, 1) := by decide +kernel
theorem dX9_followBoth_9 : decode cX9_followBoth 9 = .ok (.bipush (-9), 2) := by decide +kernel
theorem dX9_followBoth_11 : decode cX9_followBoth 11 = .ok (.invokevirtual 117, 3) := by decide +kernel
theorem dX9_followBoth_14 : decode cX9_followBoth 14 = .ok (.aload_n 0, 1) := by decide +kernel
theorem dX9_followBoth_15 : decode cX9_followBoth 15 = .ok (.getfield 64, 3) := by decide +kernel
theorem dX9_followBoth_18 : decode cX9_followBoth 18 = .ok (.aload_n 0, 1) := by decide +kernel
theorem dX9_followBoth_19 : decode cX9_followBoth 19 = .ok (.getfield 26, 3) := by decide +kernel
theorem dX9_followBoth_22 : decode cX9_followBoth 22 = .ok (.iload_n 2, 1) := by decide +kernel
theorem dX9_followBoth_23 : decode cX9_followBoth 23 = .ok (.bipush (-9), 2) := by decide +kernel
theorem dX9_followBoth_25 : decode cX9_followBoth 25 = .ok (.invokevirtual 117, 3) := by decide +kernel
theorem dX9_followBoth_28 : decode cX9_followBoth 28 = .ok (.return_, 1) := by decide +kernel
set_option maxRecDepth 20000 in
theorem ggX9_firstMeeting_X0_meets : GoodIn wsX9_firstMeeting wsX0_meets := goodIn_r _ [7, 8, 9, 10, 11, 12, 13, 14, 15, 6, 16, 30, 31, 32, 33, 34, 35] (by decide +kernel) (by decide +kernel)
set_option maxRecDepth 20000 in
theorem gX9_firstMeeting_X0_meets : GoodIn wsX9_firstMeeting (wsV RX9 252 RX0 yX0_meets wsX0_meets) := goodIn_app (goodIn_of _ (by decide +kernel)) ggX9_firstMeeting_X0_meets
theorem dX9_firstMeeting_0 : decode cX9_firstMeeting 0 = .ok (.iconst 0, 1) := by decide +kernel
theorem dX9_firstMeeting_1 : decode cX9_firstMeeting 1 = .ok (.istore_n 1, 1) := by decide +kernel
theorem dX9_firstMeeting_2 : decode cX9_firstMeeting 2 = .ok (.iload_n 1, 1) := by decide +kernel
theorem dX9_firstMeeting_3 : decode cX9_firstMeeting 3 = .ok (.bipush 10, 2) := by decide +kernel
theorem dX9_firstMeeting_5 : decode cX9_firstMeeting 5 = .ok (.if_icmp .gt 26, 3) := by decide +kernel
theorem dX9_firstMeeting_8 : decode cX9_firstMeeting 8 = .ok (.aload_n 0, 1) := by decide +kernel
theorem dX9_firstMeeting_9 : decode cX9_firstMeeting 9 = .ok (.getfield 60, 3) := by decide +kernel
theorem dX9_firstMeeting_12 : decode cX9_firstMeeting 12 = .ok (.aload_n 0, 1) := by decide +kernel
theorem dX9_firstMeeting_13 : decode cX9_firstMeeting 13 = .ok (.getfield 64, 3) := by decide +kernel
theorem dX9_firstMeeting_16 : decode cX9_firstMeeting 16 = .ok (.iload_n 1, 1) := by decide +kernel
theorem dX9_firstMeeting_17 : decode cX9_firstMeeting 17 = .ok (.invokevirtual 252, 3) := by decide +kernel
theorem dX9_firstMeeting_20 : decode cX9_firstMeeting 20 = .ok (.ifCond .eq 5, 3) := by decide +kernel
theorem dX9_firstMeeting_23 : decode cX9_firstMeeting 23 = .ok (.iload_n 1, 1) := by decide +kernel
theorem dX9_firstMeeting_24 : decode cX9_firstMeeting 24 = .ok (.ireturn, 1) := by decide +kernel
theorem dX9_firstMeeting_25 : decode cX9_firstMeeting 25 = .ok (.iinc 1 1, 3) := by decide +kernel
theorem dX9_firstMeeting_28 : decode cX9_firstMeeting 28 = .ok (.goto (-26), 3) := by decide +kernel
theorem dX9_firstMeeting_31 : decode cX9_firstMeeting 31 = .ok (.bipush (-9), 2) := by decide +kernel
theorem dX9_firstMeeting_33 : decode cX9_firstMeeting 33 = .ok (.ireturn, 1) := by decide +kernel
set_option maxRecDepth 20000 in
theorem ggX9_firstCrossing_X0_crosses : GoodIn wsX9_firstCrossing wsX0_crosses := goodIn_r _ [7, 8, 9, 10, 11, 12, 6, 13, 14, 15, 16, 17, 18, 19, 20, 34, 35, 36, 37, 38, 39] (by decide +kernel) (by decide +kernel)
set_option maxRecDepth 20000 in
theorem gX9_firstCrossing_X0_crosses : GoodIn wsX9_firstCrossing (wsV RX9 256 RX0 yX0_crosses wsX0_crosses) := goodIn_app (goodIn_of _ (by decide +kernel)) ggX9_firstCrossing_X0_crosses
theorem dX9_firstCrossing_0 : decode cX9_firstCrossing 0 = .ok (.iconst 1, 1) := by decide +kernel
theorem dX9_firstCrossing_1 : decode cX9_firstCrossing 1 = .ok (.istore_n 1, 1) := by decide +kernel
theorem dX9_firstCrossing_2 : decode cX9_firstCrossing 2 = .ok (.iload_n 1, 1) := by decide +kernel
theorem dX9_firstCrossing_3 : decode cX9_firstCrossing 3 = .ok (.bipush 10, 2) := by decide +kernel
theorem dX9_firstCrossing_5 : decode cX9_firstCrossing 5 = .ok (.if_icmp .gt 26, 3) := by decide +kernel
theorem dX9_firstCrossing_8 : decode cX9_firstCrossing 8 = .ok (.aload_n 0, 1) := by decide +kernel
theorem dX9_firstCrossing_9 : decode cX9_firstCrossing 9 = .ok (.getfield 60, 3) := by decide +kernel
theorem dX9_firstCrossing_12 : decode cX9_firstCrossing 12 = .ok (.aload_n 0, 1) := by decide +kernel
theorem dX9_firstCrossing_13 : decode cX9_firstCrossing 13 = .ok (.getfield 64, 3) := by decide +kernel
theorem dX9_firstCrossing_16 : decode cX9_firstCrossing 16 = .ok (.iload_n 1, 1) := by decide +kernel
theorem dX9_firstCrossing_17 : decode cX9_firstCrossing 17 = .ok (.invokevirtual 256, 3) := by decide +kernel
theorem dX9_firstCrossing_20 : decode cX9_firstCrossing 20 = .ok (.ifCond .eq 5, 3) := by decide +kernel
theorem dX9_firstCrossing_23 : decode cX9_firstCrossing 23 = .ok (.iload_n 1, 1) := by decide +kernel
theorem dX9_firstCrossing_24 : decode cX9_firstCrossing 24 = .ok (.ireturn, 1) := by decide +kernel
theorem dX9_firstCrossing_25 : decode cX9_firstCrossing 25 = .ok (.iinc 1 1, 3) := by decide +kernel
theorem dX9_firstCrossing_28 : decode cX9_firstCrossing 28 = .ok (.goto (-26), 3) := by decide +kernel
theorem dX9_firstCrossing_31 : decode cX9_firstCrossing 31 = .ok (.bipush (-9), 2) := by decide +kernel
theorem dX9_firstCrossing_33 : decode cX9_firstCrossing 33 = .ok (.ireturn, 1) := by decide +kernel
set_option maxRecDepth 20000 in
theorem ggX9_twosTogether_X9_followBoth : GoodIn wsX9_twosTogether wsX9_followBoth := goodIn_r _ [6, 7, 1, 8, 9, 10, 11, 12, 13, 14, 15, 16, 17, 18, 19, 20, 21, 22, 23, 24, 25, 26, 27, 28, 29, 30, 31, 32, 33, 34, 35, 36, 37, 38, 39, 40, 41, 42, 5, 43, 44, 45, 46, 47, 48, 49, 50, 51, 52, 53, 54, 55, 56, 57, 58, 59, 60, 61, 62, 63, 64, 65, 66, 67, 68, 69, 70, 92, 93, 94, 95, 96, 97, 98, 99, 100, 101, 102, 103, 104, 110, 111, 112, 113, 114, 115, 105, 106, 107, 108, 109, 116, 117, 118, 119, 120, 121] (by decide +kernel) (by decide +kernel)
set_option maxRecDepth 20000 in
theorem gX9_twosTogether_X9_followBoth : GoodIn wsX9_twosTogether (wsV RX9 186 RX9 yX9_followBoth wsX9_followBoth) := goodIn_app (goodIn_of _ (by decide +kernel)) ggX9_twosTogether_X9_followBoth
set_option maxRecDepth 20000 in
theorem ggX9_twosTogether_X9_firstMeeting : GoodIn wsX9_twosTogether wsX9_firstMeeting := goodIn_r _ [74, 7, 8, 75, 76, 77, 12, 78, 38, 39, 42, 5, 43, 79, 80, 81, 82, 92, 93, 94, 95, 96, 97, 98, 99, 100, 101, 102, 103, 104, 110, 111, 112, 113, 114, 115] (by decide +kernel) (by decide +kernel)
set_option maxRecDepth 20000 in
theorem gX9_twosTogether_X9_firstMeeting : GoodIn wsX9_twosTogether (wsV RX9 189 RX9 yX9_firstMeeting wsX9_firstMeeting) := goodIn_app (goodIn_of _ (by decide +kernel)) ggX9_twosTogether_X9_firstMeeting
set_option maxRecDepth 20000 in
theorem ggX9_twosTogether_X9_firstCrossing : GoodIn wsX9_twosTogether wsX9_firstCrossing := goodIn_r _ [86, 7, 8, 87, 88, 89, 12, 90, 38, 39, 91, 76, 77, 78, 42, 5, 43, 79, 80, 81, 82, 92, 93, 94, 95, 96, 97, 98, 99, 100, 101, 102, 103, 104, 110, 111, 112, 113, 114, 115] (by decide +kernel) (by decide +kernel)
set_option maxRecDepth 20000 in
theorem gX9_twosTogether_X9_firstCrossing : GoodIn wsX9_twosTogether (wsV RX9 192 RX9 yX9_firstCrossing wsX9_firstCrossing) := goodIn_app (goodIn_of _ (by decide +kernel)) ggX9_twosTogether_X9_firstCrossing
theorem dX9_twosTogether_0 : decode cX9_twosTogether 0 = .ok (.iconst 0, 1) := by decide +kernel
theorem dX9_twosTogether_1 : decode cX9_twosTogether 1 = .ok (.istore_n 1, 1) := by decide +kernel
theorem dX9_twosTogether_2 : decode cX9_twosTogether 2 = .ok (.iconst 0, 1) := by decide +kernel
theorem dX9_twosTogether_3 : decode cX9_twosTogether 3 = .ok (.istore_n 2, 1) := by decide +kernel
theorem dX9_twosTogether_4 : decode cX9_twosTogether 4 = .ok (.iload_n 2, 1) := by decide +kernel
theorem dX9_twosTogether_5 : decode cX9_twosTogether 5 = .ok (.aload_n 0, 1) := by decide +kernel
theorem dX9_twosTogether_6 : decode cX9_twosTogether 6 = .ok (.getfield 26, 3) := by decide +kernel
theorem dX9_twosTogether_9 : decode cX9_twosTogether 9 = .ok (.getfield 206, 3) := by decide +kernel
theorem dX9_twosTogether_12 : decode cX9_twosTogether 12 = .ok (.if_icmp .ge 57, 3) := by decide +kernel
theorem dX9_twosTogether_15 : decode cX9_twosTogether 15 = .ok (.iload_n 2, 1) := by decide +kernel
theorem dX9_twosTogether_16 : decode cX9_twosTogether 16 = .ok (.iconst 1, 1) := by decide +kernel
theorem dX9_twosTogether_17 : decode cX9_twosTogether 17 = .ok (.iadd, 1) := by decide +kernel
theorem dX9_twosTogether_18 : decode cX9_twosTogether 18 = .ok (.istore_n 3, 1) := by decide +kernel
theorem dX9_twosTogether_19 : decode cX9_twosTogether 19 = .ok (.iload_n 3, 1) := by decide +kernel
theorem dX9_twosTogether_20 : decode cX9_twosTogether 20 = .ok (.aload_n 0, 1) := by decide +kernel
theorem dX9_twosTogether_21 : decode cX9_twosTogether 21 = .ok (.getfield 26, 3) := by decide +kernel
theorem dX9_twosTogether_24 : decode cX9_twosTogether 24 = .ok (.getfield 206, 3) := by decide +kernel
theorem dX9_twosTogether_27 : decode cX9_twosTogether 27 = .ok (.if_icmp .ge 36, 3) := by decide +kernel
theorem dX9_twosTogether_30 : decode cX9_twosTogether 30 = .ok (.aload_n 0, 1) := by decide +kernel
theorem dX9_twosTogether_31 : decode cX9_twosTogether 31 = .ok (.iload_n 2, 1) := by decide +kernel
theorem dX9_twosTogether_32 : decode cX9_twosTogether 32 = .ok (.iload_n 3, 1) := by decide +kernel
theorem dX9_twosTogether_33 : decode cX9_twosTogether 33 = .ok (.invokevirtual 186, 3) := by decide +kernel
theorem dX9_twosTogether_36 : decode cX9_twosTogether 36 = .ok (.aload_n 0, 1) := by decide +kernel
theorem dX9_twosTogether_37 : decode cX9_twosTogether 37 = .ok (.invokevirtual 189, 3) := by decide +kernel
theorem dX9_twosTogether_40 : decode cX9_twosTogether 40 = .ok (.bipush (-9), 2) := by decide +kernel
theorem dX9_twosTogether_42 : decode cX9_twosTogether 42 = .ok (.if_icmp .ne 12, 3) := by decide +kernel
theorem dX9_twosTogether_45 : decode cX9_twosTogether 45 = .ok (.aload_n 0, 1) := by decide +kernel
theorem dX9_twosTogether_46 : decode cX9_twosTogether 46 = .ok (.invokevirtual 192, 3) := by decide +kernel
theorem dX9_twosTogether_49 : decode cX9_twosTogether 49 = .ok (.bipush (-9), 2) := by decide +kernel
theorem dX9_twosTogether_51 : decode cX9_twosTogether 51 = .ok (.if_icmp .eq 6, 3) := by decide +kernel
theorem dX9_twosTogether_54 : decode cX9_twosTogether 54 = .ok (.iinc 1 1, 3) := by decide +kernel
theorem dX9_twosTogether_57 : decode cX9_twosTogether 57 = .ok (.iinc 3 1, 3) := by decide +kernel
theorem dX9_twosTogether_60 : decode cX9_twosTogether 60 = .ok (.goto (-41), 3) := by decide +kernel
theorem dX9_twosTogether_63 : decode cX9_twosTogether 63 = .ok (.iinc 2 1, 3) := by decide +kernel
theorem dX9_twosTogether_66 : decode cX9_twosTogether 66 = .ok (.goto (-62), 3) := by decide +kernel
theorem dX9_twosTogether_69 : decode cX9_twosTogether 69 = .ok (.iload_n 1, 1) := by decide +kernel
theorem dX9_twosTogether_70 : decode cX9_twosTogether 70 = .ok (.ireturn, 1) := by decide +kernel
set_option maxRecDepth 20000 in
theorem ggX9_signsOfAll_X5_lengthOf : GoodIn wsX9_signsOfAll wsX5_lengthOf := goodIn_r _ [6, 7, 8, 9, 5, 10, 29, 30] (by decide +kernel) (by decide +kernel)
set_option maxRecDepth 20000 in
theorem gX9_signsOfAll_X5_lengthOf : GoodIn wsX9_signsOfAll (wsV RX9 138 RX5 yX5_lengthOf wsX5_lengthOf) := goodIn_app (goodIn_of _ (by decide +kernel)) ggX9_signsOfAll_X5_lengthOf
theorem dX9_signsOfAll_0 : decode cX9_signsOfAll 0 = .ok (.iconst 0, 1) := by decide +kernel
theorem dX9_signsOfAll_1 : decode cX9_signsOfAll 1 = .ok (.istore_n 1, 1) := by decide +kernel
theorem dX9_signsOfAll_2 : decode cX9_signsOfAll 2 = .ok (.iconst 0, 1) := by decide +kernel
theorem dX9_signsOfAll_3 : decode cX9_signsOfAll 3 = .ok (.istore_n 2, 1) := by decide +kernel
theorem dX9_signsOfAll_4 : decode cX9_signsOfAll 4 = .ok (.iload_n 2, 1) := by decide +kernel
theorem dX9_signsOfAll_5 : decode cX9_signsOfAll 5 = .ok (.aload_n 0, 1) := by decide +kernel
theorem dX9_signsOfAll_6 : decode cX9_signsOfAll 6 = .ok (.getfield 26, 3) := by decide +kernel
theorem dX9_signsOfAll_9 : decode cX9_signsOfAll 9 = .ok (.getfield 206, 3) := by decide +kernel
theorem dX9_signsOfAll_12 : decode cX9_signsOfAll 12 = .ok (.if_icmp .ge 23, 3) := by decide +kernel
theorem dX9_signsOfAll_15 : decode cX9_signsOfAll 15 = .ok (.iload_n 1, 1) := by decide +kernel
theorem dX9_signsOfAll_16 : decode cX9_signsOfAll 16 = .ok (.aload_n 0, 1) := by decide +kernel
theorem dX9_signsOfAll_17 : decode cX9_signsOfAll 17 = .ok (.getfield 26, 3) := by decide +kernel
theorem dX9_signsOfAll_20 : decode cX9_signsOfAll 20 = .ok (.getfield 104, 3) := by decide +kernel
theorem dX9_signsOfAll_23 : decode cX9_signsOfAll 23 = .ok (.iload_n 2, 1) := by decide +kernel
theorem dX9_signsOfAll_24 : decode cX9_signsOfAll 24 = .ok (.invokevirtual 138, 3) := by decide +kernel
theorem dX9_signsOfAll_27 : decode cX9_signsOfAll 27 = .ok (.iadd, 1) := by decide +kernel
theorem dX9_signsOfAll_28 : decode cX9_signsOfAll 28 = .ok (.istore_n 1, 1) := by decide +kernel
theorem dX9_signsOfAll_29 : decode cX9_signsOfAll 29 = .ok (.iinc 2 1, 3) := by decide +kernel
theorem dX9_signsOfAll_32 : decode cX9_signsOfAll 32 = .ok (.goto (-28), 3) := by decide +kernel
theorem dX9_signsOfAll_35 : decode cX9_signsOfAll 35 = .ok (.iload_n 1, 1) := by decide +kernel
theorem dX9_signsOfAll_36 : decode cX9_signsOfAll 36 = .ok (.ireturn, 1) := by decide +kernel
set_option maxRecDepth 20000 in
theorem ggX9_brokenStaffs_X0_follow : GoodIn wsX9_brokenStaffs wsX0_follow := goodIn_r _ [7, 8, 9, 10, 11, 12, 13, 14, 15, 16, 17, 18, 19, 20, 21, 22, 23, 24, 25, 26, 27, 28, 29, 30, 6, 31, 32, 33, 34, 35, 36, 37, 38, 39, 40, 41, 42, 43, 44, 45, 46, 47, 48, 49, 50, 51, 52, 53, 54, 55, 56, 57, 58, 59, 60, 61, 62, 63, 64, 65, 84, 85, 86, 87, 88, 89, 79, 80, 81, 82, 83, 90, 91, 92, 93, 94, 95] (by decide +kernel) (by decide +kernel)
set_option maxRecDepth 20000 in
theorem gX9_brokenStaffs_X0_follow : GoodIn wsX9_brokenStaffs (wsV RX9 117 RX0 yX0_follow wsX0_follow) := goodIn_app (goodIn_of _ (by decide +kernel)) ggX9_brokenStaffs_X0_follow
theorem dX9_brokenStaffs_0 : decode cX9_brokenStaffs 0 = .ok (.iconst 0, 1) := by decide +kernel
theorem dX9_brokenStaffs_1 : decode cX9_brokenStaffs 1 = .ok (.istore_n 1, 1) := by decide +kernel
theorem dX9_brokenStaffs_2 : decode cX9_brokenStaffs 2 = .ok (.iconst 0, 1) := by decide +kernel
theorem dX9_brokenStaffs_3 : decode cX9_brokenStaffs 3 = .ok (.istore_n 2, 1) := by decide +kernel
theorem dX9_brokenStaffs_4 : decode cX9_brokenStaffs 4 = .ok (.iload_n 2, 1) := by decide +kernel
theorem dX9_brokenStaffs_5 : decode cX9_brokenStaffs 5 = .ok (.aload_n 0, 1) := by decide +kernel
theorem dX9_brokenStaffs_6 : decode cX9_brokenStaffs 6 = .ok (.getfield 26, 3) := by decide +kernel
theorem dX9_brokenStaffs_9 : decode cX9_brokenStaffs 9 = .ok (.getfield 206, 3) := by decide +kernel
theorem dX9_brokenStaffs_12 : decode cX9_brokenStaffs 12 = .ok (.if_icmp .ge 38, 3) := by decide +kernel
theorem dX9_brokenStaffs_15 : decode cX9_brokenStaffs 15 = .ok (.aload_n 0, 1) := by decide +kernel
theorem dX9_brokenStaffs_16 : decode cX9_brokenStaffs 16 = .ok (.getfield 60, 3) := by decide +kernel
theorem dX9_brokenStaffs_19 : decode cX9_brokenStaffs 19 = .ok (.aload_n 0, 1) := by decide +kernel
theorem dX9_brokenStaffs_20 : decode cX9_brokenStaffs 20 = .ok (.getfield 26, 3) := by decide +kernel
theorem dX9_brokenStaffs_23 : decode cX9_brokenStaffs 23 = .ok (.iload_n 2, 1) := by decide +kernel
theorem dX9_brokenStaffs_24 : decode cX9_brokenStaffs 24 = .ok (.bipush (-9), 2) := by decide +kernel
theorem dX9_brokenStaffs_26 : decode cX9_brokenStaffs 26 = .ok (.invokevirtual 117, 3) := by decide +kernel
theorem dX9_brokenStaffs_29 : decode cX9_brokenStaffs 29 = .ok (.aload_n 0, 1) := by decide +kernel
theorem dX9_brokenStaffs_30 : decode cX9_brokenStaffs 30 = .ok (.getfield 60, 3) := by decide +kernel
theorem dX9_brokenStaffs_33 : decode cX9_brokenStaffs 33 = .ok (.getfield 142, 3) := by decide +kernel
theorem dX9_brokenStaffs_36 : decode cX9_brokenStaffs 36 = .ok (.bipush (-9), 2) := by decide +kernel
theorem dX9_brokenStaffs_38 : decode cX9_brokenStaffs 38 = .ok (.if_icmp .eq 6, 3) := by decide +kernel
theorem dX9_brokenStaffs_41 : decode cX9_brokenStaffs 41 = .ok (.iinc 1 1, 3) := by decide +kernel
theorem dX9_brokenStaffs_44 : decode cX9_brokenStaffs 44 = .ok (.iinc 2 1, 3) := by decide +kernel
theorem dX9_brokenStaffs_47 : decode cX9_brokenStaffs 47 = .ok (.goto (-43), 3) := by decide +kernel
theorem dX9_brokenStaffs_50 : decode cX9_brokenStaffs 50 = .ok (.iload_n 1, 1) := by decide +kernel
theorem dX9_brokenStaffs_51 : decode cX9_brokenStaffs 51 = .ok (.ireturn, 1) := by decide +kernel
set_option maxRecDepth 20000 in
theorem ggX9_signOnWay_X9_firstSignNearer : GoodIn wsX9_signOnWay wsX9_firstSignNearer := goodIn_r _ [5, 6, 7, 8, 9, 10, 11, 12, 13, 14, 15, 16, 17, 18, 19, 20, 21, 22, 23, 24, 25, 26, 27, 28, 29, 30, 31, 32, 33, 34, 35, 36, 4, 37, 38, 39, 40, 41, 42, 43, 44, 45, 46, 47, 48, 49, 50, 51, 52, 53, 54, 55, 56, 57, 58, 59, 60] (by decide +kernel) (by decide +kernel)
set_option maxRecDepth 20000 in
theorem gX9_signOnWay_X9_firstSignNearer : GoodIn wsX9_signOnWay (wsV RX9 259 RX9 yX9_firstSignNearer wsX9_firstSignNearer) := goodIn_app (goodIn_of _ (by decide +kernel)) ggX9_signOnWay_X9_firstSignNearer
theorem dX9_signOnWay_0 : decode cX9_signOnWay 0 = .ok (.bipush (-9), 2) := by decide +kernel
theorem dX9_signOnWay_2 : decode cX9_signOnWay 2 = .ok (.istore 5, 2) := by decide +kernel
theorem dX9_signOnWay_4 : decode cX9_signOnWay 4 = .ok (.iconst 0, 1) := by decide +kernel
theorem dX9_signOnWay_5 : decode cX9_signOnWay 5 = .ok (.istore 6, 2) := by decide +kernel
theorem dX9_signOnWay_7 : decode cX9_signOnWay 7 = .ok (.iload 6, 2) := by decide +kernel
theorem dX9_signOnWay_9 : decode cX9_signOnWay 9 = .ok (.iload 4, 2) := by decide +kernel
theorem dX9_signOnWay_11 : decode cX9_signOnWay 11 = .ok (.if_icmp .gt 18, 3) := by decide +kernel
theorem dX9_signOnWay_14 : decode cX9_signOnWay 14 = .ok (.aload_n 0, 1) := by decide +kernel
theorem dX9_signOnWay_15 : decode cX9_signOnWay 15 = .ok (.iload_n 1, 1) := by decide +kernel
theorem dX9_signOnWay_16 : decode cX9_signOnWay 16 = .ok (.iload_n 2, 1) := by decide +kernel
theorem dX9_signOnWay_17 : decode cX9_signOnWay 17 = .ok (.iload_n 3, 1) := by decide +kernel
theorem dX9_signOnWay_18 : decode cX9_signOnWay 18 = .ok (.invokevirtual 259, 3) := by decide +kernel
theorem dX9_signOnWay_21 : decode cX9_signOnWay 21 = .ok (.istore 5, 2) := by decide +kernel
theorem dX9_signOnWay_23 : decode cX9_signOnWay 23 = .ok (.iinc 6 1, 3) := by decide +kernel
theorem dX9_signOnWay_26 : decode cX9_signOnWay 26 = .ok (.goto (-19), 3) := by decide +kernel
theorem dX9_signOnWay_29 : decode cX9_signOnWay 29 = .ok (.iload 5, 2) := by decide +kernel
theorem dX9_signOnWay_31 : decode cX9_signOnWay 31 = .ok (.ireturn, 1) := by decide +kernel
set_option maxRecDepth 20000 in
theorem ggX9_firstSignNearer_X6_signsTo : GoodIn wsX9_firstSignNearer wsX6_signsTo := goodIn_r _ [7, 8, 9, 10, 11, 12, 13, 14, 15, 16, 17, 53, 54, 55, 56] (by decide +kernel) (by decide +kernel)
set_option maxRecDepth 20000 in
theorem gX9_firstSignNearer_X6_signsTo : GoodIn wsX9_firstSignNearer (wsV RX9 198 RX6 yX6_signsTo wsX6_signsTo) := goodIn_app (goodIn_of _ (by decide +kernel)) ggX9_firstSignNearer_X6_signsTo
set_option maxRecDepth 20000 in
theorem ggX9_firstSignNearer_X6_copyFrom : GoodIn wsX9_firstSignNearer wsX6_copyFrom := goodIn_r _ [21, 8, 13, 17, 22, 23, 24, 25, 6, 26, 53, 54, 55, 56] (by decide +kernel) (by decide +kernel)
set_option maxRecDepth 20000 in
theorem gX9_firstSignNearer_X6_copyFrom : GoodIn wsX9_firstSignNearer (wsV RX9 262 RX6 yX6_copyFrom wsX6_copyFrom) := goodIn_app (goodIn_of _ (by decide +kernel)) ggX9_firstSignNearer_X6_copyFrom
set_option maxRecDepth 20000 in
theorem ggX9_firstSignNearer_X6_take : GoodIn wsX9_firstSignNearer wsX6_take := goodIn_r _ [30, 22, 17, 31, 32, 33, 34, 35, 36, 6, 37, 8, 13, 38, 39, 23, 24, 25, 26, 53, 54, 55, 56] (by decide +kernel) (by decide +kernel)
set_option maxRecDepth 20000 in
theorem gX9_firstSignNearer_X6_take : GoodIn wsX9_firstSignNearer (wsV RX9 265 RX6 yX6_take wsX6_take) := goodIn_app (goodIn_of _ (by decide +kernel)) ggX9_firstSignNearer_X6_take
theorem dX9_firstSignNearer_0 : decode cX9_firstSignNearer 0 = .ok (.aload_n 0, 1) := by decide +kernel
theorem dX9_firstSignNearer_1 : decode cX9_firstSignNearer 1 = .ok (.getfield 70, 3) := by decide +kernel
theorem dX9_firstSignNearer_4 : decode cX9_firstSignNearer 4 = .ok (.iload_n 1, 1) := by decide +kernel
theorem dX9_firstSignNearer_5 : decode cX9_firstSignNearer 5 = .ok (.iload_n 2, 1) := by decide +kernel
theorem dX9_firstSignNearer_6 : decode cX9_firstSignNearer 6 = .ok (.iload_n 3, 1) := by decide +kernel
theorem dX9_firstSignNearer_7 : decode cX9_firstSignNearer 7 = .ok (.invokevirtual 198, 3) := by decide +kernel
theorem dX9_firstSignNearer_10 : decode cX9_firstSignNearer 10 = .ok (.istore 4, 2) := by decide +kernel
theorem dX9_firstSignNearer_12 : decode cX9_firstSignNearer 12 = .ok (.iconst 1, 1) := by decide +kernel
theorem dX9_firstSignNearer_13 : decode cX9_firstSignNearer 13 = .ok (.istore 5, 2) := by decide +kernel
theorem dX9_firstSignNearer_15 : decode cX9_firstSignNearer 15 = .ok (.iload 5, 2) := by decide +kernel
theorem dX9_firstSignNearer_17 : decode cX9_firstSignNearer 17 = .ok (.bipush 32, 2) := by decide +kernel
theorem dX9_firstSignNearer_19 : decode cX9_firstSignNearer 19 = .ok (.if_icmp .gt 61, 3) := by decide +kernel
theorem dX9_firstSignNearer_22 : decode cX9_firstSignNearer 22 = .ok (.aload_n 0, 1) := by decide +kernel
theorem dX9_firstSignNearer_23 : decode cX9_firstSignNearer 23 = .ok (.getfield 74, 3) := by decide +kernel
theorem dX9_firstSignNearer_26 : decode cX9_firstSignNearer 26 = .ok (.aload_n 0, 1) := by decide +kernel
theorem dX9_firstSignNearer_27 : decode cX9_firstSignNearer 27 = .ok (.getfield 70, 3) := by decide +kernel
theorem dX9_firstSignNearer_30 : decode cX9_firstSignNearer 30 = .ok (.invokevirtual 262, 3) := by decide +kernel
theorem dX9_firstSignNearer_33 : decode cX9_firstSignNearer 33 = .ok (.aload_n 0, 1) := by decide +kernel
theorem dX9_firstSignNearer_34 : decode cX9_firstSignNearer 34 = .ok (.getfield 74, 3) := by decide +kernel
theorem dX9_firstSignNearer_37 : decode cX9_firstSignNearer 37 = .ok (.iload 5, 2) := by decide +kernel
theorem dX9_firstSignNearer_39 : decode cX9_firstSignNearer 39 = .ok (.invokevirtual 265, 3) := by decide +kernel
theorem dX9_firstSignNearer_42 : decode cX9_firstSignNearer 42 = .ok (.ifCond .eq 32, 3) := by decide +kernel
theorem dX9_firstSignNearer_45 : decode cX9_firstSignNearer 45 = .ok (.aload_n 0, 1) := by decide +kernel
theorem dX9_firstSignNearer_46 : decode cX9_firstSignNearer 46 = .ok (.getfield 74, 3) := by decide +kernel
theorem dX9_firstSignNearer_49 : decode cX9_firstSignNearer 49 = .ok (.iload_n 1, 1) := by decide +kernel
theorem dX9_firstSignNearer_50 : decode cX9_firstSignNearer 50 = .ok (.iload_n 2, 1) := by decide +kernel
theorem dX9_firstSignNearer_51 : decode cX9_firstSignNearer 51 = .ok (.iload_n 3, 1) := by decide +kernel
theorem dX9_firstSignNearer_52 : decode cX9_firstSignNearer 52 = .ok (.invokevirtual 198, 3) := by decide +kernel
theorem dX9_firstSignNearer_55 : decode cX9_firstSignNearer 55 = .ok (.iload 4, 2) := by decide +kernel
theorem dX9_firstSignNearer_57 : decode cX9_firstSignNearer 57 = .ok (.if_icmp .ge 17, 3) := by decide +kernel
theorem dX9_firstSignNearer_60 : decode cX9_firstSignNearer 60 = .ok (.aload_n 0, 1) := by decide +kernel
theorem dX9_firstSignNearer_61 : decode cX9_firstSignNearer 61 = .ok (.getfield 70, 3) := by decide +kernel
theorem dX9_firstSignNearer_64 : decode cX9_firstSignNearer 64 = .ok (.aload_n 0, 1) := by decide +kernel
theorem dX9_firstSignNearer_65 : decode cX9_firstSignNearer 65 = .ok (.getfield 74, 3) := by decide +kernel
theorem dX9_firstSignNearer_68 : decode cX9_firstSignNearer 68 = .ok (.invokevirtual 262, 3) := by decide +kernel
theorem dX9_firstSignNearer_71 : decode cX9_firstSignNearer 71 = .ok (.iload 5, 2) := by decide +kernel
theorem dX9_firstSignNearer_73 : decode cX9_firstSignNearer 73 = .ok (.ireturn, 1) := by decide +kernel
theorem dX9_firstSignNearer_74 : decode cX9_firstSignNearer 74 = .ok (.iinc 5 1, 3) := by decide +kernel
theorem dX9_firstSignNearer_77 : decode cX9_firstSignNearer 77 = .ok (.goto (-62), 3) := by decide +kernel
theorem dX9_firstSignNearer_80 : decode cX9_firstSignNearer 80 = .ok (.bipush (-9), 2) := by decide +kernel
theorem dX9_firstSignNearer_82 : decode cX9_firstSignNearer 82 = .ok (.ireturn, 1) := by decide +kernel
set_option maxRecDepth 20000 in
theorem ggX9_possibleBeats_X5_lengthOf : GoodIn wsX9_possibleBeats wsX5_lengthOf := goodIn_r _ [8, 9, 10, 11, 7, 12, 102, 103] (by decide +kernel) (by decide +kernel)
set_option maxRecDepth 20000 in
theorem gX9_possibleBeats_X5_lengthOf : GoodIn wsX9_possibleBeats (wsV RX9 138 RX5 yX5_lengthOf wsX5_lengthOf) := goodIn_app (goodIn_of _ (by decide +kernel)) ggX9_possibleBeats_X5_lengthOf
set_option maxRecDepth 20000 in
theorem ggX9_possibleBeats_X0_follow : GoodIn wsX9_possibleBeats wsX0_follow := goodIn_r _ [17, 18, 19, 20, 21, 22, 23, 24, 25, 26, 27, 28, 29, 30, 31, 32, 33, 34, 35, 36, 37, 38, 39, 40, 16, 41, 42, 43, 44, 45, 46, 47, 48, 49, 50, 51, 7, 52, 53, 54, 55, 56, 57, 9, 10, 11, 12, 58, 59, 60, 61, 62, 63, 64, 65, 66, 67, 68, 69, 70, 104, 105, 106, 107, 108, 109, 97, 98, 99, 100, 101, 110, 111, 112, 113, 102, 103] (by decide +kernel) (by decide +kernel)
set_option maxRecDepth 20000 in
theorem gX9_possibleBeats_X0_follow : GoodIn wsX9_possibleBeats (wsV RX9 117 RX0 yX0_follow wsX0_follow) := goodIn_app (goodIn_of _ (by decide +kernel)) ggX9_possibleBeats_X0_follow
set_option maxRecDepth 20000 in
theorem ggX9_possibleBeats_X4_agreeWith : GoodIn wsX9_possibleBeats wsX4_agreeWith := goodIn_r _ [75, 76, 77, 78, 79, 80, 81, 82, 16, 83, 42, 43, 46, 47, 48, 114, 115, 116, 117, 104, 105, 106, 107, 108, 109] (by decide +kernel) (by decide +kernel)
set_option maxRecDepth 20000 in
theorem gX9_possibleBeats_X4_agreeWith : GoodIn wsX9_possibleBeats (wsV RX9 267 RX4 yX4_agreeWith wsX4_agreeWith) := goodIn_app (goodIn_of _ (by decide +kernel)) ggX9_possibleBeats_X4_agreeWith
theorem dX9_possibleBeats_0 : decode cX9_possibleBeats 0 = .ok (.iconst 0, 1) := by decide +kernel
theorem dX9_possibleBeats_1 : decode cX9_possibleBeats 1 = .ok (.istore_n 1, 1) := by decide +kernel
theorem dX9_possibleBeats_2 : decode cX9_possibleBeats 2 = .ok (.iconst 0, 1) := by decide +kernel
theorem dX9_possibleBeats_3 : decode cX9_possibleBeats 3 = .ok (.istore_n 2, 1) := by decide +kernel
theorem dX9_possibleBeats_4 : decode cX9_possibleBeats 4 = .ok (.iload_n 2, 1) := by decide +kernel
theorem dX9_possibleBeats_5 : decode cX9_possibleBeats 5 = .ok (.aload_n 0, 1) := by decide +kernel
theorem dX9_possibleBeats_6 : decode cX9_possibleBeats 6 = .ok (.getfield 26, 3) := by decide +kernel
theorem dX9_possibleBeats_9 : decode cX9_possibleBeats 9 = .ok (.getfield 104, 3) := by decide +kernel
theorem dX9_possibleBeats_12 : decode cX9_possibleBeats 12 = .ok (.iconst 0, 1) := by decide +kernel
theorem dX9_possibleBeats_13 : decode cX9_possibleBeats 13 = .ok (.invokevirtual 138, 3) := by decide +kernel
theorem dX9_possibleBeats_16 : decode cX9_possibleBeats 16 = .ok (.if_icmp .ge 42, 3) := by decide +kernel
theorem dX9_possibleBeats_19 : decode cX9_possibleBeats 19 = .ok (.aload_n 0, 1) := by decide +kernel
theorem dX9_possibleBeats_20 : decode cX9_possibleBeats 20 = .ok (.getfield 60, 3) := by decide +kernel
theorem dX9_possibleBeats_23 : decode cX9_possibleBeats 23 = .ok (.aload_n 0, 1) := by decide +kernel
theorem dX9_possibleBeats_24 : decode cX9_possibleBeats 24 = .ok (.getfield 26, 3) := by decide +kernel
theorem dX9_possibleBeats_27 : decode cX9_possibleBeats 27 = .ok (.iconst 0, 1) := by decide +kernel
theorem dX9_possibleBeats_28 : decode cX9_possibleBeats 28 = .ok (.iload_n 2, 1) := by decide +kernel
theorem dX9_possibleBeats_29 : decode cX9_possibleBeats 29 = .ok (.invokevirtual 117, 3) := by decide +kernel
theorem dX9_possibleBeats_32 : decode cX9_possibleBeats 32 = .ok (.aload_n 0, 1) := by decide +kernel
theorem dX9_possibleBeats_33 : decode cX9_possibleBeats 33 = .ok (.getfield 43, 3) := by decide +kernel
theorem dX9_possibleBeats_36 : decode cX9_possibleBeats 36 = .ok (.aload_n 0, 1) := by decide +kernel
theorem dX9_possibleBeats_37 : decode cX9_possibleBeats 37 = .ok (.getfield 60, 3) := by decide +kernel
theorem dX9_possibleBeats_40 : decode cX9_possibleBeats 40 = .ok (.invokevirtual 267, 3) := by decide +kernel
theorem dX9_possibleBeats_43 : decode cX9_possibleBeats 43 = .ok (.ifCond .eq 9, 3) := by decide +kernel
theorem dX9_possibleBeats_46 : decode cX9_possibleBeats 46 = .ok (.iload_n 1, 1) := by decide +kernel
theorem dX9_possibleBeats_47 : decode cX9_possibleBeats 47 = .ok (.iconst 1, 1) := by decide +kernel
theorem dX9_possibleBeats_48 : decode cX9_possibleBeats 48 = .ok (.iload_n 2, 1) := by decide +kernel
theorem dX9_possibleBeats_49 : decode cX9_possibleBeats 49 = .ok (.ishl, 1) := by decide +kernel
theorem dX9_possibleBeats_50 : decode cX9_possibleBeats 50 = .ok (.ior, 1) := by decide +kernel
theorem dX9_possibleBeats_51 : decode cX9_possibleBeats 51 = .ok (.istore_n 1, 1) := by decide +kernel
theorem dX9_possibleBeats_52 : decode cX9_possibleBeats 52 = .ok (.iinc 2 1, 3) := by decide +kernel
theorem dX9_possibleBeats_55 : decode cX9_possibleBeats 55 = .ok (.goto (-51), 3) := by decide +kernel
theorem dX9_possibleBeats_58 : decode cX9_possibleBeats 58 = .ok (.iload_n 1, 1) := by decide +kernel
theorem dX9_possibleBeats_59 : decode cX9_possibleBeats 59 = .ok (.ireturn, 1) := by decide +kernel
set_option maxRecDepth 20000 in
theorem ggX9_gatherPlaces_X0_follow : GoodIn wsX9_gatherPlaces wsX0_follow := goodIn_r _ [8, 9, 10, 11, 12, 13, 14, 15, 16, 17, 18, 19, 20, 21, 22, 23, 24, 25, 26, 27, 28, 29, 30, 31, 7, 32, 33, 34, 35, 36, 37, 38, 39, 40, 41, 42, 43, 44, 45, 46, 47, 48, 49, 50, 51, 52, 53, 54, 55, 56, 57, 58, 59, 60, 61, 62, 63, 64, 65, 66, 84, 85, 86, 87, 88, 89, 90, 91, 92, 93, 94, 95, 96, 97, 98, 99, 100] (by decide +kernel) (by decide +kernel)
set_option maxRecDepth 20000 in
theorem gX9_gatherPlaces_X0_follow : GoodIn wsX9_gatherPlaces (wsV RX9 117 RX0 yX0_follow wsX0_follow) := goodIn_app (goodIn_of _ (by decide +kernel)) ggX9_gatherPlaces_X0_follow
set_option maxRecDepth 20000 in
theorem ggX9_gatherPlaces_X0_placeBit : GoodIn wsX9_gatherPlaces wsX0_placeBit := goodIn_r _ [70, 34, 33, 37, 38, 39, 84, 85, 86, 87, 88, 89] (by decide +kernel) (by decide +kernel)
set_option maxRecDepth 20000 in
theorem gX9_gatherPlaces_X0_placeBit : GoodIn wsX9_gatherPlaces (wsV RX9 271 RX0 yX0_placeBit wsX0_placeBit) := goodIn_app (goodIn_of _ (by decide +kernel)) ggX9_gatherPlaces_X0_placeBit
theorem dX9_gatherPlaces_0 : decode cX9_gatherPlaces 0 = .ok (.iconst 0, 1) := by decide +kernel
theorem dX9_gatherPlaces_1 : decode cX9_gatherPlaces 1 = .ok (.istore_n 2, 1) := by decide +kernel
theorem dX9_gatherPlaces_2 : decode cX9_gatherPlaces 2 = .ok (.iload_n 2, 1) := by decide +kernel
theorem dX9_gatherPlaces_3 : decode cX9_gatherPlaces 3 = .ok (.bipush 10, 2) := by decide +kernel
theorem dX9_gatherPlaces_5 : decode cX9_gatherPlaces 5 = .ok (.if_icmp .gt 16, 3) := by decide +kernel
theorem dX9_gatherPlaces_8 : decode cX9_gatherPlaces 8 = .ok (.aload_n 0, 1) := by decide +kernel
theorem dX9_gatherPlaces_9 : decode cX9_gatherPlaces 9 = .ok (.getfield 77, 3) := by decide +kernel
theorem dX9_gatherPlaces_12 : decode cX9_gatherPlaces 12 = .ok (.iload_n 2, 1) := by decide +kernel
theorem dX9_gatherPlaces_13 : decode cX9_gatherPlaces 13 = .ok (.lconst 0, 1) := by decide +kernel
theorem dX9_gatherPlaces_14 : decode cX9_gatherPlaces 14 = .ok (.lastore, 1) := by decide +kernel
theorem dX9_gatherPlaces_15 : decode cX9_gatherPlaces 15 = .ok (.iinc 2 1, 3) := by decide +kernel
theorem dX9_gatherPlaces_18 : decode cX9_gatherPlaces 18 = .ok (.goto (-16), 3) := by decide +kernel
theorem dX9_gatherPlaces_21 : decode cX9_gatherPlaces 21 = .ok (.iconst 0, 1) := by decide +kernel
theorem dX9_gatherPlaces_22 : decode cX9_gatherPlaces 22 = .ok (.istore_n 2, 1) := by decide +kernel
theorem dX9_gatherPlaces_23 : decode cX9_gatherPlaces 23 = .ok (.iload_n 2, 1) := by decide +kernel
theorem dX9_gatherPlaces_24 : decode cX9_gatherPlaces 24 = .ok (.bipush 10, 2) := by decide +kernel
theorem dX9_gatherPlaces_26 : decode cX9_gatherPlaces 26 = .ok (.if_icmp .ge 61, 3) := by decide +kernel
theorem dX9_gatherPlaces_29 : decode cX9_gatherPlaces 29 = .ok (.iload_n 1, 1) := by decide +kernel
theorem dX9_gatherPlaces_30 : decode cX9_gatherPlaces 30 = .ok (.iconst 1, 1) := by decide +kernel
theorem dX9_gatherPlaces_31 : decode cX9_gatherPlaces 31 = .ok (.iload_n 2, 1) := by decide +kernel
theorem dX9_gatherPlaces_32 : decode cX9_gatherPlaces 32 = .ok (.ishl, 1) := by decide +kernel
theorem dX9_gatherPlaces_33 : decode cX9_gatherPlaces 33 = .ok (.iand, 1) := by decide +kernel
theorem dX9_gatherPlaces_34 : decode cX9_gatherPlaces 34 = .ok (.ifCond .eq 47, 3) := by decide +kernel
theorem dX9_gatherPlaces_37 : decode cX9_gatherPlaces 37 = .ok (.aload_n 0, 1) := by decide +kernel
theorem dX9_gatherPlaces_38 : decode cX9_gatherPlaces 38 = .ok (.getfield 60, 3) := by decide +kernel
theorem dX9_gatherPlaces_41 : decode cX9_gatherPlaces 41 = .ok (.aload_n 0, 1) := by decide +kernel
theorem dX9_gatherPlaces_42 : decode cX9_gatherPlaces 42 = .ok (.getfield 26, 3) := by decide +kernel
theorem dX9_gatherPlaces_45 : decode cX9_gatherPlaces 45 = .ok (.iconst 0, 1) := by decide +kernel
theorem dX9_gatherPlaces_46 : decode cX9_gatherPlaces 46 = .ok (.iload_n 2, 1) := by decide +kernel
theorem dX9_gatherPlaces_47 : decode cX9_gatherPlaces 47 = .ok (.invokevirtual 117, 3) := by decide +kernel
theorem dX9_gatherPlaces_50 : decode cX9_gatherPlaces 50 = .ok (.iconst 0, 1) := by decide +kernel
theorem dX9_gatherPlaces_51 : decode cX9_gatherPlaces 51 = .ok (.istore_n 3, 1) := by decide +kernel
theorem dX9_gatherPlaces_52 : decode cX9_gatherPlaces 52 = .ok (.iload_n 3, 1) := by decide +kernel
theorem dX9_gatherPlaces_53 : decode cX9_gatherPlaces 53 = .ok (.bipush 10, 2) := by decide +kernel
theorem dX9_gatherPlaces_55 : decode cX9_gatherPlaces 55 = .ok (.if_icmp .gt 26, 3) := by decide +kernel
theorem dX9_gatherPlaces_58 : decode cX9_gatherPlaces 58 = .ok (.aload_n 0, 1) := by decide +kernel
theorem dX9_gatherPlaces_59 : decode cX9_gatherPlaces 59 = .ok (.getfield 77, 3) := by decide +kernel
theorem dX9_gatherPlaces_62 : decode cX9_gatherPlaces 62 = .ok (.iload_n 3, 1) := by decide +kernel
theorem dX9_gatherPlaces_63 : decode cX9_gatherPlaces 63 = .ok (.dup2, 1) := by decide +kernel
theorem dX9_gatherPlaces_64 : decode cX9_gatherPlaces 64 = .ok (.laload, 1) := by decide +kernel
theorem dX9_gatherPlaces_65 : decode cX9_gatherPlaces 65 = .ok (.aload_n 0, 1) := by decide +kernel
theorem dX9_gatherPlaces_66 : decode cX9_gatherPlaces 66 = .ok (.getfield 60, 3) := by decide +kernel
theorem dX9_gatherPlaces_69 : decode cX9_gatherPlaces 69 = .ok (.iload_n 3, 1) := by decide +kernel
theorem dX9_gatherPlaces_70 : decode cX9_gatherPlaces 70 = .ok (.invokevirtual 271, 3) := by decide +kernel
theorem dX9_gatherPlaces_73 : decode cX9_gatherPlaces 73 = .ok (.lor, 1) := by decide +kernel
theorem dX9_gatherPlaces_74 : decode cX9_gatherPlaces 74 = .ok (.lastore, 1) := by decide +kernel
theorem dX9_gatherPlaces_75 : decode cX9_gatherPlaces 75 = .ok (.iinc 3 1, 3) := by decide +kernel
theorem dX9_gatherPlaces_78 : decode cX9_gatherPlaces 78 = .ok (.goto (-26), 3) := by decide +kernel
theorem dX9_gatherPlaces_81 : decode cX9_gatherPlaces 81 = .ok (.iinc 2 1, 3) := by decide +kernel
theorem dX9_gatherPlaces_84 : decode cX9_gatherPlaces 84 = .ok (.goto (-61), 3) := by decide +kernel
theorem dX9_gatherPlaces_87 : decode cX9_gatherPlaces 87 = .ok (.return_, 1) := by decide +kernel
theorem dX9_directionOf_0 : decode cX9_directionOf 0 = .ok (.iload_n 0, 1) := by decide +kernel
theorem dX9_directionOf_1 : decode cX9_directionOf 1 = .ok (.iconst 2, 1) := by decide +kernel
theorem dX9_directionOf_2 : decode cX9_directionOf 2 = .ok (.isub, 1) := by decide +kernel
theorem dX9_directionOf_3 : decode cX9_directionOf 3 = .ok (.bipush 8, 2) := by decide +kernel
theorem dX9_directionOf_5 : decode cX9_directionOf 5 = .ok (.irem, 1) := by decide +kernel
theorem dX9_directionOf_6 : decode cX9_directionOf 6 = .ok (.ireturn, 1) := by decide +kernel
theorem dX10_init_0 : decode cX10_init 0 = .ok (.aload_n 0, 1) := by decide +kernel
theorem dX10_init_1 : decode cX10_init 1 = .ok (.invokespecial 1, 3) := by decide +kernel
theorem dX10_init_4 : decode cX10_init 4 = .ok (.aload_n 0, 1) := by decide +kernel
theorem dX10_init_5 : decode cX10_init 5 = .ok (.iconst 3, 1) := by decide +kernel
theorem dX10_init_6 : decode cX10_init 6 = .ok (.newarray .int, 2) := by decide +kernel
theorem dX10_init_8 : decode cX10_init 8 = .ok (.putfield 7, 3) := by decide +kernel
theorem dX10_init_11 : decode cX10_init 11 = .ok (.aload_n 0, 1) := by decide +kernel
theorem dX10_init_12 : decode cX10_init 12 = .ok (.iconst 3, 1) := by decide +kernel
theorem dX10_init_13 : decode cX10_init 13 = .ok (.newarray .int, 2) := by decide +kernel
theorem dX10_init_15 : decode cX10_init 15 = .ok (.putfield 13, 3) := by decide +kernel
theorem dX10_init_18 : decode cX10_init 18 = .ok (.aload_n 0, 1) := by decide +kernel
theorem dX10_init_19 : decode cX10_init 19 = .ok (.iconst 3, 1) := by decide +kernel
theorem dX10_init_20 : decode cX10_init 20 = .ok (.newarray .int, 2) := by decide +kernel
theorem dX10_init_22 : decode cX10_init 22 = .ok (.putfield 16, 3) := by decide +kernel
theorem dX10_init_25 : decode cX10_init 25 = .ok (.aload_n 0, 1) := by decide +kernel
theorem dX10_init_26 : decode cX10_init 26 = .ok (.bipush 33, 2) := by decide +kernel
theorem dX10_init_28 : decode cX10_init 28 = .ok (.newarray .int, 2) := by decide +kernel
theorem dX10_init_30 : decode cX10_init 30 = .ok (.putfield 19, 3) := by decide +kernel
theorem dX10_init_33 : decode cX10_init 33 = .ok (.aload_n 0, 1) := by decide +kernel
theorem dX10_init_34 : decode cX10_init 34 = .ok (.sipush 330, 3) := by decide +kernel
theorem dX10_init_37 : decode cX10_init 37 = .ok (.newarray .int, 2) := by decide +kernel
theorem dX10_init_39 : decode cX10_init 39 = .ok (.putfield 22, 3) := by decide +kernel
theorem dX10_init_42 : decode cX10_init 42 = .ok (.aload_n 0, 1) := by decide +kernel
theorem dX10_init_43 : decode cX10_init 43 = .ok (.bipush 6, 2) := by decide +kernel
theorem dX10_init_45 : decode cX10_init 45 = .ok (.newarray .int, 2) := by decide +kernel
theorem dX10_init_47 : decode cX10_init 47 = .ok (.putfield 25, 3) := by decide +kernel
theorem dX10_init_50 : decode cX10_init 50 = .ok (.aload_n 0, 1) := by decide +kernel
theorem dX10_init_51 : decode cX10_init 51 = .ok (.bipush 6, 2) := by decide +kernel
theorem dX10_init_53 : decode cX10_init 53 = .ok (.newarray .int, 2) := by decide +kernel
theorem dX10_init_55 : decode cX10_init 55 = .ok (.putfield 28, 3) := by decide +kernel
theorem dX10_init_58 : decode cX10_init 58 = .ok (.aload_n 0, 1) := by decide +kernel
theorem dX10_init_59 : decode cX10_init 59 = .ok (.iconst 2, 1) := by decide +kernel
theorem dX10_init_60 : decode cX10_init 60 = .ok (.newarray .boolean, 2) := by decide +kernel
theorem dX10_init_62 : decode cX10_init 62 = .ok (.putfield 31, 3) := by decide +kernel
theorem dX10_init_65 : decode cX10_init 65 = .ok (.aload_n 0, 1) := by decide +kernel
theorem dX10_init_66 : decode cX10_init 66 = .ok (.bipush 66, 2) := by decide +kernel
theorem dX10_init_68 : decode cX10_init 68 = .ok (.newarray .int, 2) := by decide +kernel
theorem dX10_init_70 : decode cX10_init 70 = .ok (.putfield 35, 3) := by decide +kernel
theorem dX10_init_73 : decode cX10_init 73 = .ok (.aload_n 0, 1) := by decide +kernel
theorem dX10_init_74 : decode cX10_init 74 = .ok (.bipush 100, 2) := by decide +kernel
theorem dX10_init_76 : decode cX10_init 76 = .ok (.newarray .int, 2) := by decide +kernel
theorem dX10_init_78 : decode cX10_init 78 = .ok (.putfield 38, 3) := by decide +kernel
theorem dX10_init_81 : decode cX10_init 81 = .ok (.aload_n 0, 1) := by decide +kernel
theorem dX10_init_82 : decode cX10_init 82 = .ok (.iconst 3, 1) := by decide +kernel
theorem dX10_init_83 : decode cX10_init 83 = .ok (.newarray .int, 2) := by decide +kernel
theorem dX10_init_85 : decode cX10_init 85 = .ok (.putfield 41, 3) := by decide +kernel
theorem dX10_init_88 : decode cX10_init 88 = .ok (.aload_n 0, 1) := by decide +kernel
theorem dX10_init_89 : decode cX10_init 89 = .ok (.iconst 3, 1) := by decide +kernel
theorem dX10_init_90 : decode cX10_init 90 = .ok (.newarray .int, 2) := by decide +kernel
theorem dX10_init_92 : decode cX10_init 92 = .ok (.putfield 44, 3) := by decide +kernel
theorem dX10_init_95 : decode cX10_init 95 = .ok (.aload_n 0, 1) := by decide +kernel
theorem dX10_init_96 : decode cX10_init 96 = .ok (.iconst 3, 1) := by decide +kernel
theorem dX10_init_97 : decode cX10_init 97 = .ok (.newarray .int, 2) := by decide +kernel
theorem dX10_init_99 : decode cX10_init 99 = .ok (.putfield 47, 3) := by decide +kernel
theorem dX10_init_102 : decode cX10_init 102 = .ok (.aload_n 0, 1) := by decide +kernel
theorem dX10_init_103 : decode cX10_init 103 = .ok (.bipush 33, 2) := by decide +kernel
theorem dX10_init_105 : decode cX10_init 105 = .ok (.newarray .int, 2) := by decide +kernel
theorem dX10_init_107 : decode cX10_init 107 = .ok (.putfield 50, 3) := by decide +kernel
theorem dX10_init_110 : decode cX10_init 110 = .ok (.aload_n 0, 1) := by decide +kernel
theorem dX10_init_111 : decode cX10_init 111 = .ok (.bipush 11, 2) := by decide +kernel
theorem dX10_init_113 : decode cX10_init 113 = .ok (.newarray .int, 2) := by decide +kernel
theorem dX10_init_115 : decode cX10_init 115 = .ok (.putfield 53, 3) := by decide +kernel
theorem dX10_init_118 : decode cX10_init 118 = .ok (.aload_n 0, 1) := by decide +kernel
theorem dX10_init_119 : decode cX10_init 119 = .ok (.bipush 11, 2) := by decide +kernel
theorem dX10_init_121 : decode cX10_init 121 = .ok (.newarray .int, 2) := by decide +kernel
theorem dX10_init_123 : decode cX10_init 123 = .ok (.putfield 56, 3) := by decide +kernel
theorem dX10_init_126 : decode cX10_init 126 = .ok (.aload_n 0, 1) := by decide +kernel
theorem dX10_init_127 : decode cX10_init 127 = .ok (.bipush 11, 2) := by decide +kernel
theorem dX10_init_129 : decode cX10_init 129 = .ok (.newarray .int, 2) := by decide +kernel
theorem dX10_init_131 : decode cX10_init 131 = .ok (.putfield 59, 3) := by decide +kernel
theorem dX10_init_134 : decode cX10_init 134 = .ok (.aload_n 0, 1) := by decide +kernel
theorem dX10_init_135 : decode cX10_init 135 = .ok (.bipush 11, 2) := by decide +kernel
theorem dX10_init_137 : decode cX10_init 137 = .ok (.newarray .int, 2) := by decide +kernel
theorem dX10_init_139 : decode cX10_init 139 = .ok (.putfield 62, 3) := by decide +kernel
theorem dX10_init_142 : decode cX10_init 142 = .ok (.aload_n 0, 1) := by decide +kernel
theorem dX10_init_143 : decode cX10_init 143 = .ok (.bipush 11, 2) := by decide +kernel
theorem dX10_init_145 : decode cX10_init 145 = .ok (.newarray .int, 2) := by decide +kernel
theorem dX10_init_147 : decode cX10_init 147 = .ok (.putfield 65, 3) := by decide +kernel
theorem dX10_init_150 : decode cX10_init 150 = .ok (.aload_n 0, 1) := by decide +kernel
theorem dX10_init_151 : decode cX10_init 151 = .ok (.bipush 11, 2) := by decide +kernel
theorem dX10_init_153 : decode cX10_init 153 = .ok (.newarray .int, 2) := by decide +kernel
theorem dX10_init_155 : decode cX10_init 155 = .ok (.putfield 68, 3) := by decide +kernel
theorem dX10_init_158 : decode cX10_init 158 = .ok (.aload_n 0, 1) := by decide +kernel
theorem dX10_init_159 : decode cX10_init 159 = .ok (.sipush 1176, 3) := by decide +kernel
theorem dX10_init_162 : decode cX10_init 162 = .ok (.newarray .int, 2) := by decide +kernel
theorem dX10_init_164 : decode cX10_init 164 = .ok (.putfield 71, 3) := by decide +kernel
theorem dX10_init_167 : decode cX10_init 167 = .ok (.return_, 1) := by decide +kernel
theorem dX10_in_0 : decode cX10_in 0 = .ok (.iload_n 0, 1) := by decide +kernel
theorem dX10_in_1 : decode cX10_in 1 = .ok (.iload_n 1, 1) := by decide +kernel
theorem dX10_in_2 : decode cX10_in 2 = .ok (.if_icmp .lt 12, 3) := by decide +kernel
theorem dX10_in_5 : decode cX10_in 5 = .ok (.iload_n 0, 1) := by decide +kernel
theorem dX10_in_6 : decode cX10_in 6 = .ok (.iload_n 2, 1) := by decide +kernel
theorem dX10_in_7 : decode cX10_in 7 = .ok (.if_icmp .gt 7, 3) := by decide +kernel
theorem dX10_in_10 : decode cX10_in 10 = .ok (.iconst 1, 1) := by decide +kernel
theorem dX10_in_11 : decode cX10_in 11 = .ok (.goto 4, 3) := by decide +kernel
theorem dX10_in_14 : decode cX10_in 14 = .ok (.iconst 0, 1) := by decide +kernel
theorem dX10_in_15 : decode cX10_in 15 = .ok (.ireturn, 1) := by decide +kernel
theorem dX10_has_0 : decode cX10_has 0 = .ok (.iload_n 0, 1) := by decide +kernel
theorem dX10_has_1 : decode cX10_has 1 = .ok (.iload_n 1, 1) := by decide +kernel
theorem dX10_has_2 : decode cX10_has 2 = .ok (.ishr, 1) := by decide +kernel
theorem dX10_has_3 : decode cX10_has 3 = .ok (.iconst 1, 1) := by decide +kernel
theorem dX10_has_4 : decode cX10_has 4 = .ok (.iand, 1) := by decide +kernel
theorem dX10_has_5 : decode cX10_has 5 = .ok (.iconst 1, 1) := by decide +kernel
theorem dX10_has_6 : decode cX10_has 6 = .ok (.if_icmp .ne 7, 3) := by decide +kernel
theorem dX10_has_9 : decode cX10_has 9 = .ok (.iconst 1, 1) := by decide +kernel
theorem dX10_has_10 : decode cX10_has 10 = .ok (.goto 4, 3) := by decide +kernel
theorem dX10_has_13 : decode cX10_has 13 = .ok (.iconst 0, 1) := by decide +kernel
theorem dX10_has_14 : decode cX10_has 14 = .ok (.ireturn, 1) := by decide +kernel
set_option maxRecDepth 20000 in
theorem ggX10_type_X10_in : GoodIn wsX10_type wsX10_in := goodIn_r _ [6] (by decide +kernel) (by decide +kernel)
set_option maxRecDepth 20000 in
theorem gX10_type_X10_in : GoodIn wsX10_type (va_wsS RX10 74 yX10_in wsX10_in) := goodIn_app (goodIn_of _ (by decide +kernel)) ggX10_type_X10_in
theorem dX10_type_0 : decode cX10_type 0 = .ok (.iload_n 1, 1) := by decide +kernel
theorem dX10_type_1 : decode cX10_type 1 = .ok (.iconst 0, 1) := by decide +kernel
theorem dX10_type_2 : decode cX10_type 2 = .ok (.sipush 255, 3) := by decide +kernel
theorem dX10_type_5 : decode cX10_type 5 = .ok (.invokestatic 74, 3) := by decide +kernel
theorem dX10_type_8 : decode cX10_type 8 = .ok (.ifCond .ne 5, 3) := by decide +kernel
theorem dX10_type_11 : decode cX10_type 11 = .ok (.iconst (-1), 1) := by decide +kernel
theorem dX10_type_12 : decode cX10_type 12 = .ok (.ireturn, 1) := by decide +kernel
theorem dX10_type_13 : decode cX10_type 13 = .ok (.aload_n 0, 1) := by decide +kernel
theorem dX10_type_14 : decode cX10_type 14 = .ok (.getfield 78, 3) := by decide +kernel
theorem dX10_type_17 : decode cX10_type 17 = .ok (.bipush 100, 2) := by decide +kernel
theorem dX10_type_19 : decode cX10_type 19 = .ok (.if_icmp .ne 6, 3) := by decide +kernel
theorem dX10_type_22 : decode cX10_type 22 = .ok (.bipush (-3), 2) := by decide +kernel
theorem dX10_type_24 : decode cX10_type 24 = .ok (.ireturn, 1) := by decide +kernel
theorem dX10_type_25 : decode cX10_type 25 = .ok (.aload_n 0, 1) := by decide +kernel
theorem dX10_type_26 : decode cX10_type 26 = .ok (.getfield 38, 3) := by decide +kernel
theorem dX10_type_29 : decode cX10_type 29 = .ok (.aload_n 0, 1) := by decide +kernel
theorem dX10_type_30 : decode cX10_type 30 = .ok (.getfield 78, 3) := by decide +kernel
theorem dX10_type_33 : decode cX10_type 33 = .ok (.iload_n 1, 1) := by decide +kernel
theorem dX10_type_34 : decode cX10_type 34 = .ok (.iastore, 1) := by decide +kernel
theorem dX10_type_35 : decode cX10_type 35 = .ok (.aload_n 0, 1) := by decide +kernel
theorem dX10_type_36 : decode cX10_type 36 = .ok (.dup, 1) := by decide +kernel
theorem dX10_type_37 : decode cX10_type 37 = .ok (.getfield 78, 3) := by decide +kernel
theorem dX10_type_40 : decode cX10_type 40 = .ok (.iconst 1, 1) := by decide +kernel
theorem dX10_type_41 : decode cX10_type 41 = .ok (.iadd, 1) := by decide +kernel
theorem dX10_type_42 : decode cX10_type 42 = .ok (.putfield 78, 3) := by decide +kernel
theorem dX10_type_45 : decode cX10_type 45 = .ok (.aload_n 0, 1) := by decide +kernel
theorem dX10_type_46 : decode cX10_type 46 = .ok (.getfield 78, 3) := by decide +kernel
theorem dX10_type_49 : decode cX10_type 49 = .ok (.ireturn, 1) := by decide +kernel
theorem dX10_clear_0 : decode cX10_clear 0 = .ok (.aload_n 0, 1) := by decide +kernel
theorem dX10_clear_1 : decode cX10_clear 1 = .ok (.getfield 78, 3) := by decide +kernel
theorem dX10_clear_4 : decode cX10_clear 4 = .ok (.istore_n 1, 1) := by decide +kernel
theorem dX10_clear_5 : decode cX10_clear 5 = .ok (.aload_n 0, 1) := by decide +kernel
theorem dX10_clear_6 : decode cX10_clear 6 = .ok (.iconst 0, 1) := by decide +kernel
theorem dX10_clear_7 : decode cX10_clear 7 = .ok (.putfield 78, 3) := by decide +kernel
theorem dX10_clear_10 : decode cX10_clear 10 = .ok (.iload_n 1, 1) := by decide +kernel
theorem dX10_clear_11 : decode cX10_clear 11 = .ok (.ireturn, 1) := by decide +kernel
set_option maxRecDepth 20000 in
theorem ggX10_isFigure_X10_in : GoodIn wsX10_isFigure wsX10_in := goodIn_r _ [7] (by decide +kernel) (by decide +kernel)
set_option maxRecDepth 20000 in
theorem gX10_isFigure_X10_in : GoodIn wsX10_isFigure (va_wsS RX10 74 yX10_in wsX10_in) := goodIn_app (goodIn_of _ (by decide +kernel)) ggX10_isFigure_X10_in
theorem dX10_isFigure_0 : decode cX10_isFigure 0 = .ok (.aload_n 0, 1) := by decide +kernel
theorem dX10_isFigure_1 : decode cX10_isFigure 1 = .ok (.getfield 82, 3) := by decide +kernel
theorem dX10_isFigure_4 : decode cX10_isFigure 4 = .ok (.aload_n 0, 1) := by decide +kernel
theorem dX10_isFigure_5 : decode cX10_isFigure 5 = .ok (.getfield 78, 3) := by decide +kernel
theorem dX10_isFigure_8 : decode cX10_isFigure 8 = .ok (.if_icmp .ge 26, 3) := by decide +kernel
theorem dX10_isFigure_11 : decode cX10_isFigure 11 = .ok (.aload_n 0, 1) := by decide +kernel
theorem dX10_isFigure_12 : decode cX10_isFigure 12 = .ok (.getfield 38, 3) := by decide +kernel
theorem dX10_isFigure_15 : decode cX10_isFigure 15 = .ok (.aload_n 0, 1) := by decide +kernel
theorem dX10_isFigure_16 : decode cX10_isFigure 16 = .ok (.getfield 82, 3) := by decide +kernel
theorem dX10_isFigure_19 : decode cX10_isFigure 19 = .ok (.iaload, 1) := by decide +kernel
theorem dX10_isFigure_20 : decode cX10_isFigure 20 = .ok (.bipush 48, 2) := by decide +kernel
theorem dX10_isFigure_22 : decode cX10_isFigure 22 = .ok (.bipush 57, 2) := by decide +kernel
theorem dX10_isFigure_24 : decode cX10_isFigure 24 = .ok (.invokestatic 74, 3) := by decide +kernel
theorem dX10_isFigure_27 : decode cX10_isFigure 27 = .ok (.ifCond .eq 7, 3) := by decide +kernel
theorem dX10_isFigure_30 : decode cX10_isFigure 30 = .ok (.iconst 1, 1) := by decide +kernel
theorem dX10_isFigure_31 : decode cX10_isFigure 31 = .ok (.goto 4, 3) := by decide +kernel
theorem dX10_isFigure_34 : decode cX10_isFigure 34 = .ok (.iconst 0, 1) := by decide +kernel
theorem dX10_isFigure_35 : decode cX10_isFigure 35 = .ok (.ireturn, 1) := by decide +kernel
theorem dX10_blanks_0 : decode cX10_blanks 0 = .ok (.aload_n 0, 1) := by decide +kernel
theorem dX10_blanks_1 : decode cX10_blanks 1 = .ok (.getfield 82, 3) := by decide +kernel
theorem dX10_blanks_4 : decode cX10_blanks 4 = .ok (.aload_n 0, 1) := by decide +kernel
theorem dX10_blanks_5 : decode cX10_blanks 5 = .ok (.getfield 78, 3) := by decide +kernel
theorem dX10_blanks_8 : decode cX10_blanks 8 = .ok (.if_icmp .ge 30, 3) := by decide +kernel
theorem dX10_blanks_11 : decode cX10_blanks 11 = .ok (.aload_n 0, 1) := by decide +kernel
theorem dX10_blanks_12 : decode cX10_blanks 12 = .ok (.getfield 38, 3) := by decide +kernel
theorem dX10_blanks_15 : decode cX10_blanks 15 = .ok (.aload_n 0, 1) := by decide +kernel
theorem dX10_blanks_16 : decode cX10_blanks 16 = .ok (.getfield 82, 3) := by decide +kernel
theorem dX10_blanks_19 : decode cX10_blanks 19 = .ok (.iaload, 1) := by decide +kernel
theorem dX10_blanks_20 : decode cX10_blanks 20 = .ok (.bipush 32, 2) := by decide +kernel
theorem dX10_blanks_22 : decode cX10_blanks 22 = .ok (.if_icmp .ne 16, 3) := by decide +kernel
theorem dX10_blanks_25 : decode cX10_blanks 25 = .ok (.aload_n 0, 1) := by decide +kernel
theorem dX10_blanks_26 : decode cX10_blanks 26 = .ok (.dup, 1) := by decide +kernel
theorem dX10_blanks_27 : decode cX10_blanks 27 = .ok (.getfield 82, 3) := by decide +kernel
theorem dX10_blanks_30 : decode cX10_blanks 30 = .ok (.iconst 1, 1) := by decide +kernel
theorem dX10_blanks_31 : decode cX10_blanks 31 = .ok (.iadd, 1) := by decide +kernel
theorem dX10_blanks_32 : decode cX10_blanks 32 = .ok (.putfield 82, 3) := by decide +kernel
theorem dX10_blanks_35 : decode cX10_blanks 35 = .ok (.goto (-35), 3) := by decide +kernel
theorem dX10_blanks_38 : decode cX10_blanks 38 = .ok (.return_, 1) := by decide +kernel
theorem dX10_isToken_0 : decode cX10_isToken 0 = .ok (.iload_n 0, 1) := by decide +kernel
theorem dX10_isToken_1 : decode cX10_isToken 1 = .ok (.bipush 100, 2) := by decide +kernel
theorem dX10_isToken_3 : decode cX10_isToken 3 = .ok (.if_icmp .eq 45, 3) := by decide +kernel
theorem dX10_isToken_6 : decode cX10_isToken 6 = .ok (.iload_n 0, 1) := by decide +kernel
theorem dX10_isToken_7 : decode cX10_isToken 7 = .ok (.bipush 99, 2) := by decide +kernel
theorem dX10_isToken_9 : decode cX10_isToken 9 = .ok (.if_icmp .eq 39, 3) := by decide +kernel
theorem dX10_isToken_12 : decode cX10_isToken 12 = .ok (.iload_n 0, 1) := by decide +kernel
theorem dX10_isToken_13 : decode cX10_isToken 13 = .ok (.bipush 108, 2) := by decide +kernel
theorem dX10_isToken_15 : decode cX10_isToken 15 = .ok (.if_icmp .eq 33, 3) := by decide +kernel
theorem dX10_isToken_18 : decode cX10_isToken 18 = .ok (.iload_n 0, 1) := by decide +kernel
theorem dX10_isToken_19 : decode cX10_isToken 19 = .ok (.bipush 114, 2) := by decide +kernel
theorem dX10_isToken_21 : decode cX10_isToken 21 = .ok (.if_icmp .eq 27, 3) := by decide +kernel
theorem dX10_isToken_24 : decode cX10_isToken 24 = .ok (.iload_n 0, 1) := by decide +kernel
theorem dX10_isToken_25 : decode cX10_isToken 25 = .ok (.bipush 106, 2) := by decide +kernel
theorem dX10_isToken_27 : decode cX10_isToken 27 = .ok (.if_icmp .eq 21, 3) := by decide +kernel
theorem dX10_isToken_30 : decode cX10_isToken 30 = .ok (.iload_n 0, 1) := by decide +kernel
theorem dX10_isToken_31 : decode cX10_isToken 31 = .ok (.bipush 116, 2) := by decide +kernel
theorem dX10_isToken_33 : decode cX10_isToken 33 = .ok (.if_icmp .eq 15, 3) := by decide +kernel
theorem dX10_isToken_36 : decode cX10_isToken 36 = .ok (.iload_n 0, 1) := by decide +kernel
theorem dX10_isToken_37 : decode cX10_isToken 37 = .ok (.bipush 46, 2) := by decide +kernel
theorem dX10_isToken_39 : decode cX10_isToken 39 = .ok (.if_icmp .eq 9, 3) := by decide +kernel
theorem dX10_isToken_42 : decode cX10_isToken 42 = .ok (.iload_n 0, 1) := by decide +kernel
theorem dX10_isToken_43 : decode cX10_isToken 43 = .ok (.bipush 59, 2) := by decide +kernel
theorem dX10_isToken_45 : decode cX10_isToken 45 = .ok (.if_icmp .ne 7, 3) := by decide +kernel
theorem dX10_isToken_48 : decode cX10_isToken 48 = .ok (.iconst 1, 1) := by decide +kernel
theorem dX10_isToken_49 : decode cX10_isToken 49 = .ok (.goto 4, 3) := by decide +kernel
theorem dX10_isToken_52 : decode cX10_isToken 52 = .ok (.iconst 0, 1) := by decide +kernel
theorem dX10_isToken_53 : decode cX10_isToken 53 = .ok (.ireturn, 1) := by decide +kernel
set_option maxRecDepth 20000 in
theorem ggX10_next_X10_blanks : GoodIn wsX10_next wsX10_blanks := goodIn_r _ [11, 1, 3, 5, 22, 23, 24, 25, 26, 27, 28, 29, 30, 31, 32, 33, 34, 35, 36, 37, 38, 39, 40, 41, 42, 43, 44, 45, 46, 47, 48, 49, 50, 51, 52, 53, 54, 55, 56, 57, 58] (by decide +kernel) (by decide +kernel)
set_option maxRecDepth 20000 in
theorem gX10_next_X10_blanks : GoodIn wsX10_next (wsV RX10 85 RX10 yX10_blanks wsX10_blanks) := goodIn_app (goodIn_of _ (by decide +kernel)) ggX10_next_X10_blanks
set_option maxRecDepth 20000 in
theorem ggX10_next_X10_isFigure : GoodIn wsX10_next wsX10_isFigure := goodIn_r _ [15, 1, 3, 5, 16, 17, 10, 18, 22, 23, 24, 25, 26, 27, 28, 29, 30, 31, 32, 33, 34, 35, 36, 37, 38, 39, 40, 41, 42, 43, 44, 45, 46, 47, 48, 49, 50, 51, 52, 53, 54, 55, 56, 57, 58] (by decide +kernel) (by decide +kernel)
set_option maxRecDepth 20000 in
theorem gX10_next_X10_isFigure : GoodIn wsX10_next (wsV RX10 94 RX10 yX10_isFigure wsX10_isFigure) := goodIn_app (goodIn_of _ (by decide +kernel)) ggX10_next_X10_isFigure
set_option maxRecDepth 20000 in
theorem ggX10_next_X10_isToken : GoodIn wsX10_next wsX10_isToken := goodIn_r _ [21] (by decide +kernel) (by decide +kernel)
set_option maxRecDepth 20000 in
theorem gX10_next_X10_isToken : GoodIn wsX10_next (va_wsS RX10 101 yX10_isToken wsX10_isToken) := goodIn_app (goodIn_of _ (by decide +kernel)) ggX10_next_X10_isToken
theorem dX10_next_0 : decode cX10_next 0 = .ok (.aload_n 0, 1) := by decide +kernel
theorem dX10_next_1 : decode cX10_next 1 = .ok (.invokevirtual 85, 3) := by decide +kernel
theorem dX10_next_4 : decode cX10_next 4 = .ok (.aload_n 0, 1) := by decide +kernel
theorem dX10_next_5 : decode cX10_next 5 = .ok (.aload_n 0, 1) := by decide +kernel
theorem dX10_next_6 : decode cX10_next 6 = .ok (.getfield 82, 3) := by decide +kernel
theorem dX10_next_9 : decode cX10_next 9 = .ok (.putfield 88, 3) := by decide +kernel
theorem dX10_next_12 : decode cX10_next 12 = .ok (.aload_n 0, 1) := by decide +kernel
theorem dX10_next_13 : decode cX10_next 13 = .ok (.getfield 82, 3) := by decide +kernel
theorem dX10_next_16 : decode cX10_next 16 = .ok (.aload_n 0, 1) := by decide +kernel
theorem dX10_next_17 : decode cX10_next 17 = .ok (.getfield 78, 3) := by decide +kernel
theorem dX10_next_20 : decode cX10_next 20 = .ok (.if_icmp .ne 11, 3) := by decide +kernel
theorem dX10_next_23 : decode cX10_next 23 = .ok (.aload_n 0, 1) := by decide +kernel
theorem dX10_next_24 : decode cX10_next 24 = .ok (.iconst (-1), 1) := by decide +kernel
theorem dX10_next_25 : decode cX10_next 25 = .ok (.putfield 91, 3) := by decide +kernel
theorem dX10_next_28 : decode cX10_next 28 = .ok (.goto 115, 3) := by decide +kernel
theorem dX10_next_31 : decode cX10_next 31 = .ok (.aload_n 0, 1) := by decide +kernel
theorem dX10_next_32 : decode cX10_next 32 = .ok (.invokevirtual 94, 3) := by decide +kernel
theorem dX10_next_35 : decode cX10_next 35 = .ok (.ifCond .eq 65, 3) := by decide +kernel
theorem dX10_next_38 : decode cX10_next 38 = .ok (.aload_n 0, 1) := by decide +kernel
theorem dX10_next_39 : decode cX10_next 39 = .ok (.aload_n 0, 1) := by decide +kernel
theorem dX10_next_40 : decode cX10_next 40 = .ok (.getfield 38, 3) := by decide +kernel
theorem dX10_next_43 : decode cX10_next 43 = .ok (.aload_n 0, 1) := by decide +kernel
theorem dX10_next_44 : decode cX10_next 44 = .ok (.getfield 82, 3) := by decide +kernel
theorem dX10_next_47 : decode cX10_next 47 = .ok (.iaload, 1) := by decide +kernel
theorem dX10_next_48 : decode cX10_next 48 = .ok (.bipush 48, 2) := by decide +kernel
theorem dX10_next_50 : decode cX10_next 50 = .ok (.isub, 1) := by decide +kernel

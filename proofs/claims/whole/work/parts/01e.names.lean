theorem dX6_count_206 : decode cX6_count 206 = .ok (.iconst (-1), 1) := by decide +kernel
theorem dX6_count_207 : decode cX6_count 207 = .ok (.ireturn, 1) := by decide +kernel
set_option maxRecDepth 20000 in
theorem ggX6_total_X6_isWithin : GoodIn wsX6_total wsX6_isWithin := goodIn_r _ [5] (by decide +kernel) (by decide +kernel)
set_option maxRecDepth 20000 in
theorem gX6_total_X6_isWithin : GoodIn wsX6_total (va_wsS RX6 76 yX6_isWithin wsX6_isWithin) := goodIn_app (goodIn_of _ (by decide +kernel)) ggX6_total_X6_isWithin
set_option maxRecDepth 20000 in
theorem ggX6_total_X4_totalByAnswers : GoodIn wsX6_total wsX4_totalByAnswers := goodIn_r _ [10, 11, 12, 13, 14, 15, 16, 17, 18, 19, 20, 21, 22, 23, 24, 25, 26, 27, 28, 29, 30, 31, 32, 33, 34, 54, 55, 56, 57, 58, 59, 60, 61, 62, 63, 64, 65, 66, 67] (by decide +kernel) (by decide +kernel)
set_option maxRecDepth 20000 in
theorem gX6_total_X4_totalByAnswers : GoodIn wsX6_total (wsV RX6 192 RX4 yX4_totalByAnswers wsX4_totalByAnswers) := goodIn_app (goodIn_of _ (by decide +kernel)) ggX6_total_X4_totalByAnswers
set_option maxRecDepth 20000 in
theorem ggX6_total_X4_totalByRows : GoodIn wsX6_total wsX4_totalByRows := goodIn_r _ [38, 11, 39, 13, 14, 15, 16, 17, 18, 24, 25, 26, 27, 28, 19, 20, 21, 22, 23, 40, 41, 42, 9, 43, 44, 54, 55, 56, 57, 58, 59, 60, 61, 62, 63, 64] (by decide +kernel) (by decide +kernel)
set_option maxRecDepth 20000 in
theorem gX6_total_X4_totalByRows : GoodIn wsX6_total (wsV RX6 195 RX4 yX4_totalByRows wsX4_totalByRows) := goodIn_app (goodIn_of _ (by decide +kernel)) ggX6_total_X4_totalByRows
theorem dX6_total_0 : decode cX6_total 0 = .ok (.iload_n 1, 1) := by decide +kernel
theorem dX6_total_1 : decode cX6_total 1 = .ok (.iconst 1, 1) := by decide +kernel
theorem dX6_total_2 : decode cX6_total 2 = .ok (.invokestatic 76, 3) := by decide +kernel
theorem dX6_total_5 : decode cX6_total 5 = .ok (.ifCond .ne 5, 3) := by decide +kernel
theorem dX6_total_8 : decode cX6_total 8 = .ok (.iconst (-1), 1) := by decide +kernel
theorem dX6_total_9 : decode cX6_total 9 = .ok (.ireturn, 1) := by decide +kernel
theorem dX6_total_10 : decode cX6_total 10 = .ok (.iload_n 1, 1) := by decide +kernel
theorem dX6_total_11 : decode cX6_total 11 = .ok (.ifCond .ne 13, 3) := by decide +kernel
theorem dX6_total_14 : decode cX6_total 14 = .ok (.aload_n 0, 1) := by decide +kernel
theorem dX6_total_15 : decode cX6_total 15 = .ok (.getfield 10, 3) := by decide +kernel
theorem dX6_total_18 : decode cX6_total 18 = .ok (.invokevirtual 192, 3) := by decide +kernel
theorem dX6_total_21 : decode cX6_total 21 = .ok (.goto 10, 3) := by decide +kernel
theorem dX6_total_24 : decode cX6_total 24 = .ok (.aload_n 0, 1) := by decide +kernel
theorem dX6_total_25 : decode cX6_total 25 = .ok (.getfield 10, 3) := by decide +kernel
theorem dX6_total_28 : decode cX6_total 28 = .ok (.invokevirtual 195, 3) := by decide +kernel
theorem dX6_total_31 : decode cX6_total 31 = .ok (.ireturn, 1) := by decide +kernel
set_option maxRecDepth 20000 in
theorem ggX6_rate_X4_tally : GoodIn wsX6_rate wsX4_tally := goodIn_r _ [6, 7, 17, 18, 19, 20, 21, 22, 23, 24] (by decide +kernel) (by decide +kernel)
set_option maxRecDepth 20000 in
theorem gX6_rate_X4_tally : GoodIn wsX6_rate (wsV RX6 189 RX4 yX4_tally wsX4_tally) := goodIn_app (goodIn_of _ (by decide +kernel)) ggX6_rate_X4_tally
theorem dX6_rate_0 : decode cX6_rate 0 = .ok (.aload_n 0, 1) := by decide +kernel
theorem dX6_rate_1 : decode cX6_rate 1 = .ok (.getfield 10, 3) := by decide +kernel
theorem dX6_rate_4 : decode cX6_rate 4 = .ok (.iconst 0, 1) := by decide +kernel
theorem dX6_rate_5 : decode cX6_rate 5 = .ok (.invokevirtual 189, 3) := by decide +kernel
theorem dX6_rate_8 : decode cX6_rate 8 = .ok (.istore_n 1, 1) := by decide +kernel
theorem dX6_rate_9 : decode cX6_rate 9 = .ok (.iload_n 1, 1) := by decide +kernel
theorem dX6_rate_10 : decode cX6_rate 10 = .ok (.aload_n 0, 1) := by decide +kernel
theorem dX6_rate_11 : decode cX6_rate 11 = .ok (.getfield 10, 3) := by decide +kernel
theorem dX6_rate_14 : decode cX6_rate 14 = .ok (.iconst 1, 1) := by decide +kernel
theorem dX6_rate_15 : decode cX6_rate 15 = .ok (.invokevirtual 189, 3) := by decide +kernel
theorem dX6_rate_18 : decode cX6_rate 18 = .ok (.iadd, 1) := by decide +kernel
theorem dX6_rate_19 : decode cX6_rate 19 = .ok (.istore_n 2, 1) := by decide +kernel
theorem dX6_rate_20 : decode cX6_rate 20 = .ok (.iload_n 2, 1) := by decide +kernel
theorem dX6_rate_21 : decode cX6_rate 21 = .ok (.ifCond .ne 7, 3) := by decide +kernel
theorem dX6_rate_24 : decode cX6_rate 24 = .ok (.dconst 0, 1) := by decide +kernel
theorem dX6_rate_25 : decode cX6_rate 25 = .ok (.goto 8, 3) := by decide +kernel
theorem dX6_rate_28 : decode cX6_rate 28 = .ok (.iload_n 1, 1) := by decide +kernel
theorem dX6_rate_29 : decode cX6_rate 29 = .ok (.i2d, 1) := by decide +kernel
theorem dX6_rate_30 : decode cX6_rate 30 = .ok (.iload_n 2, 1) := by decide +kernel
theorem dX6_rate_31 : decode cX6_rate 31 = .ok (.i2d, 1) := by decide +kernel
theorem dX6_rate_32 : decode cX6_rate 32 = .ok (.ddiv, 1) := by decide +kernel
theorem dX6_rate_33 : decode cX6_rate 33 = .ok (.dreturn, 1) := by decide +kernel
set_option maxRecDepth 20000 in
theorem ggX6_ifBound_X6_isWithin : GoodIn wsX6_ifBound wsX6_isWithin := goodIn_r _ [4] (by decide +kernel) (by decide +kernel)
set_option maxRecDepth 20000 in
theorem gX6_ifBound_X6_isWithin : GoodIn wsX6_ifBound (va_wsS RX6 76 yX6_isWithin wsX6_isWithin) := goodIn_app (goodIn_of _ (by decide +kernel)) ggX6_ifBound_X6_isWithin
set_option maxRecDepth 20000 in
theorem ggX6_ifBound_X6_tryBound : GoodIn wsX6_ifBound wsX6_tryBound := goodIn_r _ [8, 9, 10, 11, 12, 13, 14, 15, 16, 17, 18, 19, 20, 21, 22, 23, 24, 25, 26, 27, 28, 29, 30, 31, 32, 3, 33, 34, 35, 36, 37, 38, 39, 40, 41, 42, 43, 44, 45, 46, 47, 48, 49, 50, 51, 52, 53, 54, 55, 56, 57, 58, 59, 60, 61, 62, 63, 64, 65, 66, 67, 68, 69, 70, 71, 72, 73, 74, 75, 76, 77, 78, 79, 80, 81, 82, 83, 84, 85, 86, 87, 88, 89, 90, 91, 92, 93, 94, 95, 96, 97, 98, 99, 100, 101, 102, 103, 104, 105, 106, 107, 108, 109, 110, 111, 112, 113, 114, 115, 116, 117, 118, 119, 120, 121, 122, 123, 124, 125, 126, 127, 128, 129, 130, 131, 132, 133, 134, 135, 136, 137, 138, 139, 140, 141, 142, 143, 144, 145, 146, 155, 156, 157, 158, 159, 160, 161, 162, 163, 164, 165, 166, 167, 168, 169, 170, 171, 172, 173, 174, 175, 176, 177, 178, 179, 180, 181] (by decide +kernel) (by decide +kernel)
set_option maxRecDepth 20000 in
theorem gX6_ifBound_X6_tryBound : GoodIn wsX6_ifBound (wsV RX6 198 RX6 yX6_tryBound wsX6_tryBound) := goodIn_app (goodIn_of _ (by decide +kernel)) ggX6_ifBound_X6_tryBound
set_option maxRecDepth 20000 in
theorem ggX6_ifBound_X6_brought : GoodIn wsX6_ifBound wsX6_brought := goodIn_r _ [150, 9, 10, 151, 152, 153, 14, 154, 21, 155, 156, 157, 158, 159, 160, 161, 162, 163, 164, 165, 166, 167, 168, 169, 170, 171] (by decide +kernel) (by decide +kernel)
set_option maxRecDepth 20000 in
theorem gX6_ifBound_X6_brought : GoodIn wsX6_ifBound (wsV RX6 202 RX6 yX6_brought wsX6_brought) := goodIn_app (goodIn_of _ (by decide +kernel)) ggX6_ifBound_X6_brought
theorem dX6_ifBound_0 : decode cX6_ifBound 0 = .ok (.iload_n 1, 1) := by decide +kernel
theorem dX6_ifBound_1 : decode cX6_ifBound 1 = .ok (.bipush 60, 2) := by decide +kernel
theorem dX6_ifBound_3 : decode cX6_ifBound 3 = .ok (.invokestatic 76, 3) := by decide +kernel
theorem dX6_ifBound_6 : decode cX6_ifBound 6 = .ok (.ifCond .eq 11, 3) := by decide +kernel
theorem dX6_ifBound_9 : decode cX6_ifBound 9 = .ok (.iload_n 2, 1) := by decide +kernel
theorem dX6_ifBound_10 : decode cX6_ifBound 10 = .ok (.iconst 3, 1) := by decide +kernel
theorem dX6_ifBound_11 : decode cX6_ifBound 11 = .ok (.invokestatic 76, 3) := by decide +kernel
theorem dX6_ifBound_14 : decode cX6_ifBound 14 = .ok (.ifCond .ne 5, 3) := by decide +kernel
theorem dX6_ifBound_17 : decode cX6_ifBound 17 = .ok (.iconst (-1), 1) := by decide +kernel
theorem dX6_ifBound_18 : decode cX6_ifBound 18 = .ok (.ireturn, 1) := by decide +kernel
theorem dX6_ifBound_19 : decode cX6_ifBound 19 = .ok (.aload_n 0, 1) := by decide +kernel
theorem dX6_ifBound_20 : decode cX6_ifBound 20 = .ok (.iload_n 1, 1) := by decide +kernel
theorem dX6_ifBound_21 : decode cX6_ifBound 21 = .ok (.invokevirtual 198, 3) := by decide +kernel
theorem dX6_ifBound_24 : decode cX6_ifBound 24 = .ok (.iload_n 2, 1) := by decide +kernel
theorem dX6_ifBound_25 : decode cX6_ifBound 25 = .ok (.tableswitch 45 0 2 #[27, 33, 39], 27) := by decide +kernel
theorem dX6_ifBound_52 : decode cX6_ifBound 52 = .ok (.aload_n 0, 1) := by decide +kernel
theorem dX6_ifBound_53 : decode cX6_ifBound 53 = .ok (.iconst 2, 1) := by decide +kernel
theorem dX6_ifBound_54 : decode cX6_ifBound 54 = .ok (.invokevirtual 202, 3) := by decide +kernel
theorem dX6_ifBound_57 : decode cX6_ifBound 57 = .ok (.ireturn, 1) := by decide +kernel
theorem dX6_ifBound_58 : decode cX6_ifBound 58 = .ok (.aload_n 0, 1) := by decide +kernel
theorem dX6_ifBound_59 : decode cX6_ifBound 59 = .ok (.iconst 0, 1) := by decide +kernel
theorem dX6_ifBound_60 : decode cX6_ifBound 60 = .ok (.invokevirtual 202, 3) := by decide +kernel
theorem dX6_ifBound_63 : decode cX6_ifBound 63 = .ok (.ireturn, 1) := by decide +kernel
theorem dX6_ifBound_64 : decode cX6_ifBound 64 = .ok (.aload_n 0, 1) := by decide +kernel
theorem dX6_ifBound_65 : decode cX6_ifBound 65 = .ok (.iconst 1, 1) := by decide +kernel
theorem dX6_ifBound_66 : decode cX6_ifBound 66 = .ok (.invokevirtual 202, 3) := by decide +kernel
theorem dX6_ifBound_69 : decode cX6_ifBound 69 = .ok (.ireturn, 1) := by decide +kernel
theorem dX6_ifBound_70 : decode cX6_ifBound 70 = .ok (.aload_n 0, 1) := by decide +kernel
theorem dX6_ifBound_71 : decode cX6_ifBound 71 = .ok (.iconst 3, 1) := by decide +kernel
theorem dX6_ifBound_72 : decode cX6_ifBound 72 = .ok (.invokevirtual 202, 3) := by decide +kernel
theorem dX6_ifBound_75 : decode cX6_ifBound 75 = .ok (.ireturn, 1) := by decide +kernel
set_option maxRecDepth 20000 in
theorem ggX6_ifOrdered_X6_isWithin : GoodIn wsX6_ifOrdered wsX6_isWithin := goodIn_r _ [6] (by decide +kernel) (by decide +kernel)
set_option maxRecDepth 20000 in
theorem gX6_ifOrdered_X6_isWithin : GoodIn wsX6_ifOrdered (va_wsS RX6 76 yX6_isWithin wsX6_isWithin) := goodIn_app (goodIn_of _ (by decide +kernel)) ggX6_ifOrdered_X6_isWithin
set_option maxRecDepth 20000 in
theorem ggX6_ifOrdered_X4_copyFrom : GoodIn wsX6_ifOrdered wsX4_copyFrom := goodIn_r _ [11, 12, 13, 14, 15, 16, 17, 18, 19, 20, 21, 22, 23, 24, 25, 26, 27, 28, 5, 29, 30, 31, 32, 33, 34, 35, 36, 37, 38, 39, 40, 41, 42, 43, 44, 45, 46, 47, 48, 49, 50, 51, 52, 53, 54, 158, 159, 160, 161, 162, 163, 164, 165, 166, 167, 168, 169, 170, 171, 172, 173, 174, 175] (by decide +kernel) (by decide +kernel)
set_option maxRecDepth 20000 in
theorem gX6_ifOrdered_X4_copyFrom : GoodIn wsX6_ifOrdered (wsV RX6 205 RX4 yX4_copyFrom wsX4_copyFrom) := goodIn_app (goodIn_of _ (by decide +kernel)) ggX6_ifOrdered_X4_copyFrom
set_option maxRecDepth 20000 in
theorem ggX6_ifOrdered_X4_table : GoodIn wsX6_ifOrdered wsX4_table := goodIn_r _ [58, 13, 12, 158, 159, 160, 161, 162, 163, 164, 165] (by decide +kernel) (by decide +kernel)
set_option maxRecDepth 20000 in
theorem gX6_ifOrdered_X4_table : GoodIn wsX6_ifOrdered (wsV RX6 87 RX4 yX4_table wsX4_table) := goodIn_app (goodIn_of _ (by decide +kernel)) ggX6_ifOrdered_X4_table
set_option maxRecDepth 20000 in
theorem ggX6_ifOrdered_X4_place : GoodIn wsX6_ifOrdered wsX4_place := goodIn_r _ [62, 18, 158, 159, 160, 161, 162, 163, 164, 165] (by decide +kernel) (by decide +kernel)
set_option maxRecDepth 20000 in
theorem gX6_ifOrdered_X4_place : GoodIn wsX6_ifOrdered (wsV RX6 181 RX4 yX4_place wsX4_place) := goodIn_app (goodIn_of _ (by decide +kernel)) ggX6_ifOrdered_X4_place
set_option maxRecDepth 20000 in
theorem ggX6_ifOrdered_X5_sortFrom : GoodIn wsX6_ifOrdered wsX5_sortFrom := goodIn_r _ [66, 27, 67, 68, 69, 23, 70, 25, 71, 72, 73, 74, 75, 76, 77, 78, 26, 79, 80, 81, 82, 166, 167, 168] (by decide +kernel) (by decide +kernel)
set_option maxRecDepth 20000 in
theorem gX6_ifOrdered_X5_sortFrom : GoodIn wsX6_ifOrdered (wsV RX6 208 RX5 yX5_sortFrom wsX5_sortFrom) := goodIn_app (goodIn_of _ (by decide +kernel)) ggX6_ifOrdered_X5_sortFrom
set_option maxRecDepth 20000 in
theorem ggX6_ifOrdered_X5_reverseFrom : GoodIn wsX6_ifOrdered wsX5_reverseFrom := goodIn_r _ [86, 27, 71, 72, 73, 23, 74, 67, 68, 69, 70, 25, 75, 76, 77, 78, 26, 79, 80, 81, 82, 166, 167, 168] (by decide +kernel) (by decide +kernel)
set_option maxRecDepth 20000 in
theorem gX6_ifOrdered_X5_reverseFrom : GoodIn wsX6_ifOrdered (wsV RX6 211 RX5 yX5_reverseFrom wsX5_reverseFrom) := goodIn_app (goodIn_of _ (by decide +kernel)) ggX6_ifOrdered_X5_reverseFrom
set_option maxRecDepth 20000 in
theorem ggX6_ifOrdered_X4_walk : GoodIn wsX6_ifOrdered wsX4_walk := goodIn_r _ [90, 18, 12, 17, 19, 14, 91, 92, 93, 23, 94, 27, 95, 68, 69, 70, 25, 96, 97, 98, 10, 99, 15, 13, 16, 100, 101, 102, 49, 103, 51, 104, 105, 106, 107, 54, 52, 108, 109, 110, 41, 111, 43, 112, 113, 114, 115, 53, 116, 117, 118, 119, 120, 121, 122, 123, 124, 125, 126, 127, 128, 129, 130, 131, 132, 133, 134, 135, 136, 76, 77, 78, 26, 137, 138, 139, 140, 44, 158, 159, 160, 161, 162, 163, 164, 165, 166, 167, 168, 172, 173, 174, 175, 169, 170, 171] (by decide +kernel) (by decide +kernel)
set_option maxRecDepth 20000 in
theorem gX6_ifOrdered_X4_walk : GoodIn wsX6_ifOrdered (wsV RX6 56 RX4 yX4_walk wsX4_walk) := goodIn_app (goodIn_of _ (by decide +kernel)) ggX6_ifOrdered_X4_walk
set_option maxRecDepth 20000 in
theorem ggX6_ifOrdered_X6_brought : GoodIn wsX6_ifOrdered wsX6_brought := goodIn_r _ [144, 1, 2, 145, 146, 147, 10, 148, 17, 149, 150, 151, 152, 153, 154, 155, 156, 157, 158, 159, 160, 161, 162, 163, 164, 165] (by decide +kernel) (by decide +kernel)
set_option maxRecDepth 20000 in
theorem gX6_ifOrdered_X6_brought : GoodIn wsX6_ifOrdered (wsV RX6 202 RX6 yX6_brought wsX6_brought) := goodIn_app (goodIn_of _ (by decide +kernel)) ggX6_ifOrdered_X6_brought
theorem dX6_ifOrdered_0 : decode cX6_ifOrdered 0 = .ok (.iload_n 1, 1) := by decide +kernel
theorem dX6_ifOrdered_1 : decode cX6_ifOrdered 1 = .ok (.iconst 2, 1) := by decide +kernel
theorem dX6_ifOrdered_2 : decode cX6_ifOrdered 2 = .ok (.invokestatic 76, 3) := by decide +kernel
theorem dX6_ifOrdered_5 : decode cX6_ifOrdered 5 = .ok (.ifCond .ne 5, 3) := by decide +kernel
theorem dX6_ifOrdered_8 : decode cX6_ifOrdered 8 = .ok (.iconst (-1), 1) := by decide +kernel
theorem dX6_ifOrdered_9 : decode cX6_ifOrdered 9 = .ok (.ireturn, 1) := by decide +kernel
theorem dX6_ifOrdered_10 : decode cX6_ifOrdered 10 = .ok (.aload_n 0, 1) := by decide +kernel
theorem dX6_ifOrdered_11 : decode cX6_ifOrdered 11 = .ok (.getfield 16, 3) := by decide +kernel
theorem dX6_ifOrdered_14 : decode cX6_ifOrdered 14 = .ok (.aload_n 0, 1) := by decide +kernel
theorem dX6_ifOrdered_15 : decode cX6_ifOrdered 15 = .ok (.getfield 10, 3) := by decide +kernel
theorem dX6_ifOrdered_18 : decode cX6_ifOrdered 18 = .ok (.invokevirtual 205, 3) := by decide +kernel
theorem dX6_ifOrdered_21 : decode cX6_ifOrdered 21 = .ok (.iload_n 1, 1) := by decide +kernel
theorem dX6_ifOrdered_22 : decode cX6_ifOrdered 22 = .ok (.iconst 1, 1) := by decide +kernel
theorem dX6_ifOrdered_23 : decode cX6_ifOrdered 23 = .ok (.if_icmp .ne 24, 3) := by decide +kernel
theorem dX6_ifOrdered_26 : decode cX6_ifOrdered 26 = .ok (.aload_n 0, 1) := by decide +kernel
theorem dX6_ifOrdered_27 : decode cX6_ifOrdered 27 = .ok (.getfield 16, 3) := by decide +kernel
theorem dX6_ifOrdered_30 : decode cX6_ifOrdered 30 = .ok (.iconst 0, 1) := by decide +kernel
theorem dX6_ifOrdered_31 : decode cX6_ifOrdered 31 = .ok (.invokevirtual 87, 3) := by decide +kernel
theorem dX6_ifOrdered_34 : decode cX6_ifOrdered 34 = .ok (.aload_n 0, 1) := by decide +kernel
theorem dX6_ifOrdered_35 : decode cX6_ifOrdered 35 = .ok (.getfield 16, 3) := by decide +kernel
theorem dX6_ifOrdered_38 : decode cX6_ifOrdered 38 = .ok (.invokevirtual 181, 3) := by decide +kernel
theorem dX6_ifOrdered_41 : decode cX6_ifOrdered 41 = .ok (.invokevirtual 208, 3) := by decide +kernel
theorem dX6_ifOrdered_44 : decode cX6_ifOrdered 44 = .ok (.goto 26, 3) := by decide +kernel
theorem dX6_ifOrdered_47 : decode cX6_ifOrdered 47 = .ok (.iload_n 1, 1) := by decide +kernel
theorem dX6_ifOrdered_48 : decode cX6_ifOrdered 48 = .ok (.iconst 2, 1) := by decide +kernel
theorem dX6_ifOrdered_49 : decode cX6_ifOrdered 49 = .ok (.if_icmp .ne 21, 3) := by decide +kernel
theorem dX6_ifOrdered_52 : decode cX6_ifOrdered 52 = .ok (.aload_n 0, 1) := by decide +kernel
theorem dX6_ifOrdered_53 : decode cX6_ifOrdered 53 = .ok (.getfield 16, 3) := by decide +kernel
theorem dX6_ifOrdered_56 : decode cX6_ifOrdered 56 = .ok (.iconst 0, 1) := by decide +kernel
theorem dX6_ifOrdered_57 : decode cX6_ifOrdered 57 = .ok (.invokevirtual 87, 3) := by decide +kernel
theorem dX6_ifOrdered_60 : decode cX6_ifOrdered 60 = .ok (.aload_n 0, 1) := by decide +kernel
theorem dX6_ifOrdered_61 : decode cX6_ifOrdered 61 = .ok (.getfield 16, 3) := by decide +kernel
theorem dX6_ifOrdered_64 : decode cX6_ifOrdered 64 = .ok (.invokevirtual 181, 3) := by decide +kernel
theorem dX6_ifOrdered_67 : decode cX6_ifOrdered 67 = .ok (.invokevirtual 211, 3) := by decide +kernel
theorem dX6_ifOrdered_70 : decode cX6_ifOrdered 70 = .ok (.aload_n 0, 1) := by decide +kernel
theorem dX6_ifOrdered_71 : decode cX6_ifOrdered 71 = .ok (.getfield 16, 3) := by decide +kernel
theorem dX6_ifOrdered_74 : decode cX6_ifOrdered 74 = .ok (.bipush 20, 2) := by decide +kernel
theorem dX6_ifOrdered_76 : decode cX6_ifOrdered 76 = .ok (.invokevirtual 56, 3) := by decide +kernel
theorem dX6_ifOrdered_79 : decode cX6_ifOrdered 79 = .ok (.pop, 1) := by decide +kernel
theorem dX6_ifOrdered_80 : decode cX6_ifOrdered 80 = .ok (.aload_n 0, 1) := by decide +kernel
theorem dX6_ifOrdered_81 : decode cX6_ifOrdered 81 = .ok (.iconst 2, 1) := by decide +kernel
theorem dX6_ifOrdered_82 : decode cX6_ifOrdered 82 = .ok (.invokevirtual 202, 3) := by decide +kernel
theorem dX6_ifOrdered_85 : decode cX6_ifOrdered 85 = .ok (.ireturn, 1) := by decide +kernel
set_option maxRecDepth 20000 in
theorem ggX6_leastBound_X6_tryBound : GoodIn wsX6_leastBound wsX6_tryBound := goodIn_r _ [5, 6, 7, 8, 9, 10, 11, 12, 13, 14, 15, 16, 17, 18, 19, 20, 21, 22, 23, 24, 25, 26, 27, 28, 29, 4, 30, 31, 32, 33, 34, 35, 36, 37, 38, 39, 40, 41, 42, 43, 44, 45, 46, 47, 48, 49, 50, 51, 52, 53, 54, 55, 56, 57, 58, 59, 60, 61, 62, 63, 64, 65, 66, 67, 68, 69, 70, 71, 72, 73, 74, 75, 76, 77, 78, 79, 80, 81, 82, 83, 84, 85, 86, 87, 88, 89, 90, 91, 92, 93, 94, 95, 96, 97, 98, 99, 100, 101, 102, 103, 104, 105, 106, 107, 108, 109, 110, 111, 112, 113, 114, 115, 116, 117, 118, 119, 120, 121, 122, 123, 124, 125, 126, 127, 128, 129, 130, 131, 132, 133, 134, 135, 136, 137, 138, 139, 140, 141, 142, 143, 152, 153, 154, 155, 156, 157, 158, 159, 160, 161, 162, 163, 164, 165, 166, 167, 168, 169, 170, 171, 172, 173, 174, 175, 176, 177, 178] (by decide +kernel) (by decide +kernel)
set_option maxRecDepth 20000 in
theorem gX6_leastBound_X6_tryBound : GoodIn wsX6_leastBound (wsV RX6 198 RX6 yX6_tryBound wsX6_tryBound) := goodIn_app (goodIn_of _ (by decide +kernel)) ggX6_leastBound_X6_tryBound
set_option maxRecDepth 20000 in
theorem ggX6_leastBound_X6_brought : GoodIn wsX6_leastBound wsX6_brought := goodIn_r _ [147, 6, 7, 148, 149, 150, 11, 151, 18, 152, 153, 154, 155, 156, 157, 158, 159, 160, 161, 162, 163, 164, 165, 166, 167, 168] (by decide +kernel) (by decide +kernel)
set_option maxRecDepth 20000 in
theorem gX6_leastBound_X6_brought : GoodIn wsX6_leastBound (wsV RX6 202 RX6 yX6_brought wsX6_brought) := goodIn_app (goodIn_of _ (by decide +kernel)) ggX6_leastBound_X6_brought
theorem dX6_leastBound_0 : decode cX6_leastBound 0 = .ok (.aload_n 0, 1) := by decide +kernel
theorem dX6_leastBound_1 : decode cX6_leastBound 1 = .ok (.iconst 0, 1) := by decide +kernel
theorem dX6_leastBound_2 : decode cX6_leastBound 2 = .ok (.invokevirtual 198, 3) := by decide +kernel
theorem dX6_leastBound_5 : decode cX6_leastBound 5 = .ok (.iconst 0, 1) := by decide +kernel
theorem dX6_leastBound_6 : decode cX6_leastBound 6 = .ok (.istore_n 1, 1) := by decide +kernel
theorem dX6_leastBound_7 : decode cX6_leastBound 7 = .ok (.aload_n 0, 1) := by decide +kernel
theorem dX6_leastBound_8 : decode cX6_leastBound 8 = .ok (.iconst 2, 1) := by decide +kernel
theorem dX6_leastBound_9 : decode cX6_leastBound 9 = .ok (.invokevirtual 202, 3) := by decide +kernel
theorem dX6_leastBound_12 : decode cX6_leastBound 12 = .ok (.istore_n 2, 1) := by decide +kernel
theorem dX6_leastBound_13 : decode cX6_leastBound 13 = .ok (.iconst 1, 1) := by decide +kernel
theorem dX6_leastBound_14 : decode cX6_leastBound 14 = .ok (.istore_n 3, 1) := by decide +kernel
theorem dX6_leastBound_15 : decode cX6_leastBound 15 = .ok (.iload_n 3, 1) := by decide +kernel
theorem dX6_leastBound_16 : decode cX6_leastBound 16 = .ok (.bipush 60, 2) := by decide +kernel
theorem dX6_leastBound_18 : decode cX6_leastBound 18 = .ok (.if_icmp .gt 32, 3) := by decide +kernel
theorem dX6_leastBound_21 : decode cX6_leastBound 21 = .ok (.aload_n 0, 1) := by decide +kernel
theorem dX6_leastBound_22 : decode cX6_leastBound 22 = .ok (.iload_n 3, 1) := by decide +kernel
theorem dX6_leastBound_23 : decode cX6_leastBound 23 = .ok (.invokevirtual 198, 3) := by decide +kernel
theorem dX6_leastBound_26 : decode cX6_leastBound 26 = .ok (.aload_n 0, 1) := by decide +kernel
theorem dX6_leastBound_27 : decode cX6_leastBound 27 = .ok (.iconst 2, 1) := by decide +kernel
theorem dX6_leastBound_28 : decode cX6_leastBound 28 = .ok (.invokevirtual 202, 3) := by decide +kernel
theorem dX6_leastBound_31 : decode cX6_leastBound 31 = .ok (.istore 4, 2) := by decide +kernel
theorem dX6_leastBound_33 : decode cX6_leastBound 33 = .ok (.iload 4, 2) := by decide +kernel
theorem dX6_leastBound_35 : decode cX6_leastBound 35 = .ok (.iload_n 2, 1) := by decide +kernel
theorem dX6_leastBound_36 : decode cX6_leastBound 36 = .ok (.if_icmp .ge 8, 3) := by decide +kernel
theorem dX6_leastBound_39 : decode cX6_leastBound 39 = .ok (.iload 4, 2) := by decide +kernel
theorem dX6_leastBound_41 : decode cX6_leastBound 41 = .ok (.istore_n 2, 1) := by decide +kernel
theorem dX6_leastBound_42 : decode cX6_leastBound 42 = .ok (.iload_n 3, 1) := by decide +kernel
theorem dX6_leastBound_43 : decode cX6_leastBound 43 = .ok (.istore_n 1, 1) := by decide +kernel
theorem dX6_leastBound_44 : decode cX6_leastBound 44 = .ok (.iinc 3 1, 3) := by decide +kernel
theorem dX6_leastBound_47 : decode cX6_leastBound 47 = .ok (.goto (-32), 3) := by decide +kernel
theorem dX6_leastBound_50 : decode cX6_leastBound 50 = .ok (.iload_n 1, 1) := by decide +kernel
theorem dX6_leastBound_51 : decode cX6_leastBound 51 = .ok (.ireturn, 1) := by decide +kernel
set_option maxRecDepth 20000 in
theorem ggX6_undo_X1_pop : GoodIn wsX6_undo wsX1_pop := goodIn_r _ [7, 8, 9, 10, 11, 12, 6, 13, 14, 77, 78, 79] (by decide +kernel) (by decide +kernel)
set_option maxRecDepth 20000 in
theorem gX6_undo_X1_pop : GoodIn wsX6_undo (wsV RX6 214 RX1 yX1_pop wsX1_pop) := goodIn_app (goodIn_of _ (by decide +kernel)) ggX6_undo_X1_pop
set_option maxRecDepth 20000 in
theorem ggX6_undo_X4_copyFrom : GoodIn wsX6_undo wsX4_copyFrom := goodIn_r _ [19, 20, 21, 22, 23, 24, 25, 26, 27, 28, 29, 30, 31, 32, 33, 34, 35, 36, 37, 38, 39, 40, 41, 42, 43, 44, 45, 46, 47, 48, 49, 50, 51, 52, 53, 54, 55, 56, 57, 58, 59, 60, 61, 62, 63, 80, 81, 82, 83, 84, 85, 86, 87, 88, 89, 90, 91, 92, 93, 94, 95, 96, 97] (by decide +kernel) (by decide +kernel)
set_option maxRecDepth 20000 in
theorem gX6_undo_X4_copyFrom : GoodIn wsX6_undo (wsV RX6 205 RX4 yX4_copyFrom wsX4_copyFrom) := goodIn_app (goodIn_of _ (by decide +kernel)) ggX6_undo_X4_copyFrom
set_option maxRecDepth 20000 in
theorem ggX6_undo_X1_size : GoodIn wsX6_undo wsX1_size := goodIn_r _ [67, 8, 77, 78, 79] (by decide +kernel) (by decide +kernel)
set_option maxRecDepth 20000 in
theorem gX6_undo_X1_size : GoodIn wsX6_undo (wsV RX6 188 RX1 yX1_size wsX1_size) := goodIn_app (goodIn_of _ (by decide +kernel)) ggX6_undo_X1_size
theorem dX6_undo_0 : decode cX6_undo 0 = .ok (.aload_n 0, 1) := by decide +kernel
theorem dX6_undo_1 : decode cX6_undo 1 = .ok (.getfield 25, 3) := by decide +kernel
theorem dX6_undo_4 : decode cX6_undo 4 = .ok (.invokevirtual 214, 3) := by decide +kernel
theorem dX6_undo_7 : decode cX6_undo 7 = .ok (.astore_n 1, 1) := by decide +kernel
theorem dX6_undo_8 : decode cX6_undo 8 = .ok (.aload_n 1, 1) := by decide +kernel
theorem dX6_undo_9 : decode cX6_undo 9 = .ok (.ifnonnull 6, 3) := by decide +kernel
theorem dX6_undo_12 : decode cX6_undo 12 = .ok (.bipush (-2), 2) := by decide +kernel
theorem dX6_undo_14 : decode cX6_undo 14 = .ok (.ireturn, 1) := by decide +kernel
theorem dX6_undo_15 : decode cX6_undo 15 = .ok (.aload_n 0, 1) := by decide +kernel
theorem dX6_undo_16 : decode cX6_undo 16 = .ok (.getfield 10, 3) := by decide +kernel
theorem dX6_undo_19 : decode cX6_undo 19 = .ok (.aload_n 1, 1) := by decide +kernel
theorem dX6_undo_20 : decode cX6_undo 20 = .ok (.invokevirtual 205, 3) := by decide +kernel
theorem dX6_undo_23 : decode cX6_undo 23 = .ok (.aload_n 0, 1) := by decide +kernel
theorem dX6_undo_24 : decode cX6_undo 24 = .ok (.getfield 25, 3) := by decide +kernel
theorem dX6_undo_27 : decode cX6_undo 27 = .ok (.invokevirtual 188, 3) := by decide +kernel
theorem dX6_undo_30 : decode cX6_undo 30 = .ok (.ireturn, 1) := by decide +kernel
set_option maxRecDepth 20000 in
theorem ggX6_save_X4_copyFrom : GoodIn wsX6_save wsX4_copyFrom := goodIn_r _ [8, 9, 10, 11, 12, 13, 14, 15, 16, 17, 18, 19, 20, 21, 22, 23, 24, 25, 26, 27, 28, 29, 30, 31, 32, 33, 34, 35, 36, 37, 38, 39, 40, 41, 42, 43, 44, 45, 46, 47, 48, 49, 50, 51, 52, 70, 71, 72, 73, 74, 75, 76, 77, 78, 79, 80, 81, 82, 83, 84, 85, 86, 87] (by decide +kernel) (by decide +kernel)
set_option maxRecDepth 20000 in
theorem gX6_save_X4_copyFrom : GoodIn wsX6_save (wsV RX6 205 RX4 yX4_copyFrom wsX4_copyFrom) := goodIn_app (goodIn_of _ (by decide +kernel)) ggX6_save_X4_copyFrom
set_option maxRecDepth 20000 in
theorem ggX6_save_X4_memo : GoodIn wsX6_save wsX4_memo := goodIn_r _ [56, 12, 70, 71, 72, 73, 74, 75, 76, 77] (by decide +kernel) (by decide +kernel)
set_option maxRecDepth 20000 in
theorem gX6_save_X4_memo : GoodIn wsX6_save (wsV RX6 159 RX4 yX4_memo wsX4_memo) := goodIn_app (goodIn_of _ (by decide +kernel)) ggX6_save_X4_memo
set_option maxRecDepth 20000 in
theorem ggX6_save_X2_size : GoodIn wsX6_save wsX2_size := goodIn_r _ [60, 49, 84, 85, 86, 87] (by decide +kernel) (by decide +kernel)
set_option maxRecDepth 20000 in
theorem gX6_save_X2_size : GoodIn wsX6_save (wsV RX6 177 RX2 yX2_size wsX2_size) := goodIn_app (goodIn_of _ (by decide +kernel)) ggX6_save_X2_size
theorem dX6_save_0 : decode cX6_save 0 = .ok (.aload_n 0, 1) := by decide +kernel
theorem dX6_save_1 : decode cX6_save 1 = .ok (.getfield 19, 3) := by decide +kernel
theorem dX6_save_4 : decode cX6_save 4 = .ok (.aload_n 0, 1) := by decide +kernel
theorem dX6_save_5 : decode cX6_save 5 = .ok (.getfield 10, 3) := by decide +kernel
theorem dX6_save_8 : decode cX6_save 8 = .ok (.invokevirtual 205, 3) := by decide +kernel
theorem dX6_save_11 : decode cX6_save 11 = .ok (.aload_n 0, 1) := by decide +kernel
theorem dX6_save_12 : decode cX6_save 12 = .ok (.iconst 1, 1) := by decide +kernel
theorem dX6_save_13 : decode cX6_save 13 = .ok (.putfield 218, 3) := by decide +kernel
theorem dX6_save_16 : decode cX6_save 16 = .ok (.aload_n 0, 1) := by decide +kernel
theorem dX6_save_17 : decode cX6_save 17 = .ok (.getfield 10, 3) := by decide +kernel
theorem dX6_save_20 : decode cX6_save 20 = .ok (.invokevirtual 159, 3) := by decide +kernel
theorem dX6_save_23 : decode cX6_save 23 = .ok (.invokevirtual 177, 3) := by decide +kernel
theorem dX6_save_26 : decode cX6_save 26 = .ok (.ireturn, 1) := by decide +kernel
set_option maxRecDepth 20000 in
theorem ggX6_restore_X1_prepare : GoodIn wsX6_restore wsX1_prepare := goodIn_r _ [9, 10, 11, 12, 13, 8, 14, 15, 16, 17, 18, 19, 20, 21, 22, 23, 24, 25, 26, 27, 28, 29, 30, 31, 32, 33, 34, 35, 36, 37, 38, 39, 40, 41, 42, 43, 44, 45, 46, 47, 48, 49, 50, 51, 52, 53, 54, 55, 56, 57, 58, 59, 60, 61, 62, 63, 64, 89, 90, 91, 92, 93, 94, 95, 96, 97, 98, 99, 100, 101, 102, 103, 104, 105, 106, 107, 108, 109] (by decide +kernel) (by decide +kernel)
set_option maxRecDepth 20000 in
theorem gX6_restore_X1_prepare : GoodIn wsX6_restore (wsV RX6 36 RX1 yX1_prepare wsX1_prepare) := goodIn_app (goodIn_of _ (by decide +kernel)) ggX6_restore_X1_prepare
set_option maxRecDepth 20000 in
theorem ggX6_restore_X4_copyFrom : GoodIn wsX6_restore wsX4_copyFrom := goodIn_r _ [20, 21, 22, 23, 24, 25, 26, 27, 28, 29, 30, 31, 32, 33, 34, 35, 36, 37, 38, 39, 40, 41, 42, 43, 44, 45, 46, 47, 48, 49, 50, 51, 52, 53, 54, 55, 56, 57, 58, 59, 60, 61, 62, 63, 64, 92, 93, 94, 95, 96, 97, 98, 99, 100, 101, 102, 103, 104, 105, 106, 107, 108, 109] (by decide +kernel) (by decide +kernel)
set_option maxRecDepth 20000 in
theorem gX6_restore_X4_copyFrom : GoodIn wsX6_restore (wsV RX6 205 RX4 yX4_copyFrom wsX4_copyFrom) := goodIn_app (goodIn_of _ (by decide +kernel)) ggX6_restore_X4_copyFrom
set_option maxRecDepth 20000 in
theorem ggX6_restore_X4_memo : GoodIn wsX6_restore wsX4_memo := goodIn_r _ [69, 24, 92, 93, 94, 95, 96, 97, 98, 99] (by decide +kernel) (by decide +kernel)
set_option maxRecDepth 20000 in
theorem gX6_restore_X4_memo : GoodIn wsX6_restore (wsV RX6 159 RX4 yX4_memo wsX4_memo) := goodIn_app (goodIn_of _ (by decide +kernel)) ggX6_restore_X4_memo
set_option maxRecDepth 20000 in
theorem ggX6_restore_X2_size : GoodIn wsX6_restore wsX2_size := goodIn_r _ [73, 61, 106, 107, 108, 109] (by decide +kernel) (by decide +kernel)
set_option maxRecDepth 20000 in
theorem gX6_restore_X2_size : GoodIn wsX6_restore (wsV RX6 177 RX2 yX2_size wsX2_size) := goodIn_app (goodIn_of _ (by decide +kernel)) ggX6_restore_X2_size
set_option maxRecDepth 20000 in
theorem ggX6_restore_X1_commit : GoodIn wsX6_restore wsX1_commit := goodIn_r _ [77, 10, 78, 79, 41, 42, 43, 89, 90, 91] (by decide +kernel) (by decide +kernel)
set_option maxRecDepth 20000 in
theorem gX6_restore_X1_commit : GoodIn wsX6_restore (wsV RX6 44 RX1 yX1_commit wsX1_commit) := goodIn_app (goodIn_of _ (by decide +kernel)) ggX6_restore_X1_commit
theorem dX6_restore_0 : decode cX6_restore 0 = .ok (.aload_n 0, 1) := by decide +kernel
theorem dX6_restore_1 : decode cX6_restore 1 = .ok (.getfield 218, 3) := by decide +kernel
theorem dX6_restore_4 : decode cX6_restore 4 = .ok (.ifCond .ne 6, 3) := by decide +kernel
theorem dX6_restore_7 : decode cX6_restore 7 = .ok (.bipush (-2), 2) := by decide +kernel
theorem dX6_restore_9 : decode cX6_restore 9 = .ok (.ireturn, 1) := by decide +kernel
theorem dX6_restore_10 : decode cX6_restore 10 = .ok (.aload_n 0, 1) := by decide +kernel
theorem dX6_restore_11 : decode cX6_restore 11 = .ok (.getfield 25, 3) := by decide +kernel
theorem dX6_restore_14 : decode cX6_restore 14 = .ok (.aload_n 0, 1) := by decide +kernel
theorem dX6_restore_15 : decode cX6_restore 15 = .ok (.getfield 10, 3) := by decide +kernel
theorem dX6_restore_18 : decode cX6_restore 18 = .ok (.invokevirtual 36, 3) := by decide +kernel
theorem dX6_restore_21 : decode cX6_restore 21 = .ok (.aload_n 0, 1) := by decide +kernel
theorem dX6_restore_22 : decode cX6_restore 22 = .ok (.getfield 10, 3) := by decide +kernel
theorem dX6_restore_25 : decode cX6_restore 25 = .ok (.aload_n 0, 1) := by decide +kernel
theorem dX6_restore_26 : decode cX6_restore 26 = .ok (.getfield 19, 3) := by decide +kernel
theorem dX6_restore_29 : decode cX6_restore 29 = .ok (.invokevirtual 205, 3) := by decide +kernel
theorem dX6_restore_32 : decode cX6_restore 32 = .ok (.aload_n 0, 1) := by decide +kernel
theorem dX6_restore_33 : decode cX6_restore 33 = .ok (.getfield 25, 3) := by decide +kernel
theorem dX6_restore_36 : decode cX6_restore 36 = .ok (.aload_n 0, 1) := by decide +kernel
theorem dX6_restore_37 : decode cX6_restore 37 = .ok (.getfield 10, 3) := by decide +kernel
theorem dX6_restore_40 : decode cX6_restore 40 = .ok (.invokevirtual 159, 3) := by decide +kernel
theorem dX6_restore_43 : decode cX6_restore 43 = .ok (.invokevirtual 177, 3) := by decide +kernel
theorem dX6_restore_46 : decode cX6_restore 46 = .ok (.invokevirtual 44, 3) := by decide +kernel
theorem dX6_restore_49 : decode cX6_restore 49 = .ok (.ireturn, 1) := by decide +kernel
set_option maxRecDepth 20000 in
theorem ggX6_obey_X3_sign : GoodIn wsX6_obey wsX3_sign := goodIn_r _ [7, 8, 189, 190, 191, 192, 193, 194, 195, 196, 197] (by decide +kernel) (by decide +kernel)
set_option maxRecDepth 20000 in
theorem gX6_obey_X3_sign : GoodIn wsX6_obey (wsV RX6 222 RX3 yX3_sign wsX3_sign) := goodIn_app (goodIn_of _ (by decide +kernel)) ggX6_obey_X3_sign
set_option maxRecDepth 20000 in
theorem ggX6_obey_X3_first : GoodIn wsX6_obey wsX3_first := goodIn_r _ [12, 13, 189, 190, 191, 192, 193, 194, 195, 196, 197] (by decide +kernel) (by decide +kernel)
set_option maxRecDepth 20000 in
theorem gX6_obey_X3_first : GoodIn wsX6_obey (wsV RX6 104 RX3 yX3_first wsX3_first) := goodIn_app (goodIn_of _ (by decide +kernel)) ggX6_obey_X3_first
set_option maxRecDepth 20000 in
theorem ggX6_obey_X4_walk : GoodIn wsX6_obey wsX4_walk := goodIn_r _ [18, 19, 20, 21, 22, 23, 24, 25, 26, 27, 28, 29, 30, 31, 32, 33, 34, 35, 36, 37, 17, 38, 39, 40, 41, 42, 43, 44, 45, 46, 47, 48, 49, 50, 51, 52, 53, 54, 55, 56, 57, 58, 59, 60, 61, 62, 63, 64, 65, 66, 67, 68, 69, 70, 71, 72, 73, 74, 75, 76, 77, 78, 79, 80, 81, 82, 83, 84, 85, 86, 87, 88, 89, 90, 91, 92, 93, 94, 198, 199, 200, 201, 202, 203, 204, 205, 206, 207, 208, 209, 210, 211, 212, 213, 214, 215] (by decide +kernel) (by decide +kernel)
set_option maxRecDepth 20000 in
theorem gX6_obey_X4_walk : GoodIn wsX6_obey (wsV RX6 56 RX4 yX4_walk wsX4_walk) := goodIn_app (goodIn_of _ (by decide +kernel)) ggX6_obey_X4_walk
set_option maxRecDepth 20000 in
theorem ggX6_obey_X3_second : GoodIn wsX6_obey wsX3_second := goodIn_r _ [98, 99, 189, 190, 191, 192, 193, 194, 195, 196, 197] (by decide +kernel) (by decide +kernel)
set_option maxRecDepth 20000 in
theorem gX6_obey_X3_second : GoodIn wsX6_obey (wsV RX6 107 RX3 yX3_second wsX3_second) := goodIn_app (goodIn_of _ (by decide +kernel)) ggX6_obey_X3_second
set_option maxRecDepth 20000 in
theorem ggX6_obey_X4_insertRow : GoodIn wsX6_obey wsX4_insertRow := goodIn_r _ [103, 104, 105, 106, 107, 108, 109, 110, 111, 112, 113, 114, 115, 17, 116, 40, 20, 24, 25, 26, 27, 28, 29, 117, 118, 119, 120, 121, 122, 123, 124, 34, 89, 125, 126, 127, 128, 41, 129, 130, 131, 132, 23, 133, 134, 135, 57, 136, 59, 94, 137, 138, 139, 86, 87, 88, 140, 31, 32, 33, 141, 142, 143, 144, 39, 21, 145, 146, 147, 45, 148, 47, 149, 150, 151, 152, 153, 154, 155, 156, 42, 43, 44, 46, 81, 82, 83, 84, 198, 199, 200, 201, 202, 203, 204, 205, 206, 207, 208, 213, 214, 215, 209, 210, 211, 212] (by decide +kernel) (by decide +kernel)
set_option maxRecDepth 20000 in
theorem gX6_obey_X4_insertRow : GoodIn wsX6_obey (wsV RX6 40 RX4 yX4_insertRow wsX4_insertRow) := goodIn_app (goodIn_of _ (by decide +kernel)) ggX6_obey_X4_insertRow
set_option maxRecDepth 20000 in
theorem ggX6_obey_X4_removeRow : GoodIn wsX6_obey wsX4_removeRow := goodIn_r _ [160, 19, 113, 114, 115, 17, 116, 40, 20, 161, 162, 163, 27, 164, 29, 30, 31, 32, 33, 34, 165, 166, 167, 168, 169, 170, 171, 86, 87, 88, 89, 121, 122, 123, 124, 125, 126, 127, 128, 41, 129, 130, 131, 132, 23, 133, 134, 135, 57, 136, 59, 94, 137, 138, 25, 26, 28, 139, 140, 141, 142, 143, 144, 39, 21, 145, 146, 147, 45, 148, 47, 149, 150, 151, 152, 153, 154, 155, 156, 42, 43, 44, 46, 81, 82, 83, 84, 172, 173, 174, 175, 24, 198, 199, 200, 201, 202, 203, 204, 205, 206, 207, 208, 213, 214, 215, 209, 210, 211, 212] (by decide +kernel) (by decide +kernel)
set_option maxRecDepth 20000 in
theorem gX6_obey_X4_removeRow : GoodIn wsX6_obey (wsV RX6 48 RX4 yX4_removeRow wsX4_removeRow) := goodIn_app (goodIn_of _ (by decide +kernel)) ggX6_obey_X4_removeRow
set_option maxRecDepth 20000 in
theorem ggX6_obey_X4_beginAgain : GoodIn wsX6_obey wsX4_beginAgain := goodIn_r _ [179, 22, 19, 198, 199, 200, 201, 202, 203, 204, 205] (by decide +kernel) (by decide +kernel)
set_option maxRecDepth 20000 in
theorem gX6_obey_X4_beginAgain : GoodIn wsX6_obey (wsV RX6 59 RX4 yX4_beginAgain wsX4_beginAgain) := goodIn_app (goodIn_of _ (by decide +kernel)) ggX6_obey_X4_beginAgain
theorem dX6_obey_0 : decode cX6_obey 0 = .ok (.aload_n 0, 1) := by decide +kernel
theorem dX6_obey_1 : decode cX6_obey 1 = .ok (.getfield 32, 3) := by decide +kernel
theorem dX6_obey_4 : decode cX6_obey 4 = .ok (.invokevirtual 222, 3) := by decide +kernel
theorem dX6_obey_7 : decode cX6_obey 7 = .ok (.lookupswitch 87 #[(43, 48), (45, 71), (115, 33)], 33) := by decide +kernel
theorem dX6_obey_40 : decode cX6_obey 40 = .ok (.aload_n 0, 1) := by decide +kernel
theorem dX6_obey_41 : decode cX6_obey 41 = .ok (.getfield 10, 3) := by decide +kernel
theorem dX6_obey_44 : decode cX6_obey 44 = .ok (.aload_n 0, 1) := by decide +kernel
theorem dX6_obey_45 : decode cX6_obey 45 = .ok (.getfield 32, 3) := by decide +kernel
theorem dX6_obey_48 : decode cX6_obey 48 = .ok (.invokevirtual 104, 3) := by decide +kernel
theorem dX6_obey_51 : decode cX6_obey 51 = .ok (.invokevirtual 56, 3) := by decide +kernel
theorem dX6_obey_54 : decode cX6_obey 54 = .ok (.ireturn, 1) := by decide +kernel
theorem dX6_obey_55 : decode cX6_obey 55 = .ok (.aload_n 0, 1) := by decide +kernel
theorem dX6_obey_56 : decode cX6_obey 56 = .ok (.getfield 10, 3) := by decide +kernel
theorem dX6_obey_59 : decode cX6_obey 59 = .ok (.iconst 1, 1) := by decide +kernel
theorem dX6_obey_60 : decode cX6_obey 60 = .ok (.aload_n 0, 1) := by decide +kernel
theorem dX6_obey_61 : decode cX6_obey 61 = .ok (.getfield 32, 3) := by decide +kernel
theorem dX6_obey_64 : decode cX6_obey 64 = .ok (.invokevirtual 104, 3) := by decide +kernel
theorem dX6_obey_67 : decode cX6_obey 67 = .ok (.aload_n 0, 1) := by decide +kernel
theorem dX6_obey_68 : decode cX6_obey 68 = .ok (.getfield 32, 3) := by decide +kernel
theorem dX6_obey_71 : decode cX6_obey 71 = .ok (.invokevirtual 107, 3) := by decide +kernel
theorem dX6_obey_74 : decode cX6_obey 74 = .ok (.invokevirtual 40, 3) := by decide +kernel
theorem dX6_obey_77 : decode cX6_obey 77 = .ok (.ireturn, 1) := by decide +kernel
theorem dX6_obey_78 : decode cX6_obey 78 = .ok (.aload_n 0, 1) := by decide +kernel
theorem dX6_obey_79 : decode cX6_obey 79 = .ok (.getfield 10, 3) := by decide +kernel
theorem dX6_obey_82 : decode cX6_obey 82 = .ok (.iconst 1, 1) := by decide +kernel
theorem dX6_obey_83 : decode cX6_obey 83 = .ok (.aload_n 0, 1) := by decide +kernel
theorem dX6_obey_84 : decode cX6_obey 84 = .ok (.getfield 32, 3) := by decide +kernel
theorem dX6_obey_87 : decode cX6_obey 87 = .ok (.invokevirtual 104, 3) := by decide +kernel
theorem dX6_obey_90 : decode cX6_obey 90 = .ok (.invokevirtual 48, 3) := by decide +kernel
theorem dX6_obey_93 : decode cX6_obey 93 = .ok (.ireturn, 1) := by decide +kernel
theorem dX6_obey_94 : decode cX6_obey 94 = .ok (.aload_n 0, 1) := by decide +kernel
theorem dX6_obey_95 : decode cX6_obey 95 = .ok (.getfield 10, 3) := by decide +kernel
theorem dX6_obey_98 : decode cX6_obey 98 = .ok (.invokevirtual 59, 3) := by decide +kernel
theorem dX6_obey_101 : decode cX6_obey 101 = .ok (.ireturn, 1) := by decide +kernel
set_option maxRecDepth 20000 in
theorem ggX6_tryBound_X4_copyFrom : GoodIn wsX6_tryBound wsX4_copyFrom := goodIn_r _ [7, 8, 9, 10, 11, 12, 13, 14, 15, 16, 17, 18, 19, 20, 21, 22, 23, 24, 25, 26, 27, 28, 29, 30, 31, 32, 33, 34, 35, 36, 37, 38, 39, 40, 41, 42, 43, 44, 45, 46, 47, 48, 49, 50, 51, 149, 150, 151, 152, 153, 154, 155, 156, 157, 158, 159, 160, 161, 162, 163, 164, 165, 166] (by decide +kernel) (by decide +kernel)
set_option maxRecDepth 20000 in
theorem gX6_tryBound_X4_copyFrom : GoodIn wsX6_tryBound (wsV RX6 205 RX4 yX4_copyFrom wsX4_copyFrom) := goodIn_app (goodIn_of _ (by decide +kernel)) ggX6_tryBound_X4_copyFrom
set_option maxRecDepth 20000 in
theorem ggX6_tryBound_X4_adjust : GoodIn wsX6_tryBound wsX4_adjust := goodIn_r _ [55, 56, 12, 57, 58, 59, 6, 60, 11, 10, 13, 61, 62, 63, 64, 65, 66, 67, 46, 68, 48, 69, 70, 71, 38, 72, 40, 73, 74, 75, 76, 77, 78, 79, 80, 50, 49, 81, 82, 83, 84, 85, 86, 87, 88, 9, 89, 90, 91, 92, 41, 42, 93, 94, 95, 19, 96, 23, 97, 98, 99, 100, 22, 101, 102, 103, 104, 21, 105, 106, 107, 108, 109, 110, 111, 112, 113, 114, 115, 116, 149, 150, 151, 152, 153, 154, 155, 156, 163, 164, 165, 166, 160, 161, 162, 157, 158, 159] (by decide +kernel) (by decide +kernel)
set_option maxRecDepth 20000 in
theorem gX6_tryBound_X4_adjust : GoodIn wsX6_tryBound (wsV RX6 66 RX4 yX4_adjust wsX4_adjust) := goodIn_app (goodIn_of _ (by decide +kernel)) ggX6_tryBound_X4_adjust
set_option maxRecDepth 20000 in
theorem ggX6_tryBound_X4_walk : GoodIn wsX6_tryBound wsX4_walk := goodIn_r _ [120, 14, 8, 13, 15, 10, 121, 94, 95, 19, 96, 23, 122, 102, 103, 104, 21, 123, 124, 125, 6, 126, 11, 9, 12, 65, 66, 67, 46, 68, 48, 127, 128, 129, 130, 51, 49, 69, 70, 71, 38, 72, 40, 131, 132, 133, 134, 50, 57, 58, 59, 60, 61, 62, 63, 64, 73, 74, 75, 76, 77, 78, 79, 80, 81, 82, 83, 84, 135, 98, 99, 100, 22, 136, 137, 138, 139, 41, 149, 150, 151, 152, 153, 154, 155, 156, 157, 158, 159, 163, 164, 165, 166, 160, 161, 162] (by decide +kernel) (by decide +kernel)
set_option maxRecDepth 20000 in
theorem gX6_tryBound_X4_walk : GoodIn wsX6_tryBound (wsV RX6 56 RX4 yX4_walk wsX4_walk) := goodIn_app (goodIn_of _ (by decide +kernel)) ggX6_tryBound_X4_walk
theorem dX6_tryBound_0 : decode cX6_tryBound 0 = .ok (.aload_n 0, 1) := by decide +kernel
theorem dX6_tryBound_1 : decode cX6_tryBound 1 = .ok (.getfield 16, 3) := by decide +kernel
theorem dX6_tryBound_4 : decode cX6_tryBound 4 = .ok (.aload_n 0, 1) := by decide +kernel
theorem dX6_tryBound_5 : decode cX6_tryBound 5 = .ok (.getfield 10, 3) := by decide +kernel
theorem dX6_tryBound_8 : decode cX6_tryBound 8 = .ok (.invokevirtual 205, 3) := by decide +kernel
theorem dX6_tryBound_11 : decode cX6_tryBound 11 = .ok (.aload_n 0, 1) := by decide +kernel
theorem dX6_tryBound_12 : decode cX6_tryBound 12 = .ok (.getfield 16, 3) := by decide +kernel
theorem dX6_tryBound_15 : decode cX6_tryBound 15 = .ok (.iconst 0, 1) := by decide +kernel
theorem dX6_tryBound_16 : decode cX6_tryBound 16 = .ok (.iload_n 1, 1) := by decide +kernel
theorem dX6_tryBound_17 : decode cX6_tryBound 17 = .ok (.invokevirtual 66, 3) := by decide +kernel
theorem dX6_tryBound_20 : decode cX6_tryBound 20 = .ok (.pop, 1) := by decide +kernel
theorem dX6_tryBound_21 : decode cX6_tryBound 21 = .ok (.aload_n 0, 1) := by decide +kernel
theorem dX6_tryBound_22 : decode cX6_tryBound 22 = .ok (.getfield 16, 3) := by decide +kernel
theorem dX6_tryBound_25 : decode cX6_tryBound 25 = .ok (.bipush 20, 2) := by decide +kernel
theorem dX6_tryBound_27 : decode cX6_tryBound 27 = .ok (.invokevirtual 56, 3) := by decide +kernel
theorem dX6_tryBound_30 : decode cX6_tryBound 30 = .ok (.pop, 1) := by decide +kernel
theorem dX6_tryBound_31 : decode cX6_tryBound 31 = .ok (.return_, 1) := by decide +kernel
set_option maxRecDepth 20000 in
theorem ggX6_brought_X4_tally : GoodIn wsX6_brought wsX4_tally := goodIn_r _ [7, 8, 18, 19, 20, 21, 22, 23, 24, 25] (by decide +kernel) (by decide +kernel)
set_option maxRecDepth 20000 in
theorem gX6_brought_X4_tally : GoodIn wsX6_brought (wsV RX6 189 RX4 yX4_tally wsX4_tally) := goodIn_app (goodIn_of _ (by decide +kernel)) ggX6_brought_X4_tally
theorem dX6_brought_0 : decode cX6_brought 0 = .ok (.aload_n 0, 1) := by decide +kernel
theorem dX6_brought_1 : decode cX6_brought 1 = .ok (.getfield 16, 3) := by decide +kernel
theorem dX6_brought_4 : decode cX6_brought 4 = .ok (.iload_n 1, 1) := by decide +kernel
theorem dX6_brought_5 : decode cX6_brought 5 = .ok (.invokevirtual 189, 3) := by decide +kernel
theorem dX6_brought_8 : decode cX6_brought 8 = .ok (.aload_n 0, 1) := by decide +kernel
theorem dX6_brought_9 : decode cX6_brought 9 = .ok (.getfield 10, 3) := by decide +kernel
theorem dX6_brought_12 : decode cX6_brought 12 = .ok (.iload_n 1, 1) := by decide +kernel
theorem dX6_brought_13 : decode cX6_brought 13 = .ok (.invokevirtual 189, 3) := by decide +kernel
theorem dX6_brought_16 : decode cX6_brought 16 = .ok (.isub, 1) := by decide +kernel
theorem dX6_brought_17 : decode cX6_brought 17 = .ok (.ireturn, 1) := by decide +kernel
theorem dX6_isWithin_0 : decode cX6_isWithin 0 = .ok (.iload_n 0, 1) := by decide +kernel
theorem dX6_isWithin_1 : decode cX6_isWithin 1 = .ok (.ifCond .lt 12, 3) := by decide +kernel
theorem dX6_isWithin_4 : decode cX6_isWithin 4 = .ok (.iload_n 0, 1) := by decide +kernel
theorem dX6_isWithin_5 : decode cX6_isWithin 5 = .ok (.iload_n 1, 1) := by decide +kernel
theorem dX6_isWithin_6 : decode cX6_isWithin 6 = .ok (.if_icmp .gt 7, 3) := by decide +kernel
theorem dX6_isWithin_9 : decode cX6_isWithin 9 = .ok (.iconst 1, 1) := by decide +kernel
theorem dX6_isWithin_10 : decode cX6_isWithin 10 = .ok (.goto 4, 3) := by decide +kernel
theorem dX6_isWithin_13 : decode cX6_isWithin 13 = .ok (.iconst 0, 1) := by decide +kernel
theorem dX6_isWithin_14 : decode cX6_isWithin 14 = .ok (.ireturn, 1) := by decide +kernel
set_option maxRecDepth 20000 in
theorem ggX6_isKey_X6_isWithin : GoodIn wsX6_isKey wsX6_isWithin := goodIn_r _ [4] (by decide +kernel) (by decide +kernel)
set_option maxRecDepth 20000 in
theorem gX6_isKey_X6_isWithin : GoodIn wsX6_isKey (va_wsS RX6 76 yX6_isWithin wsX6_isWithin) := goodIn_app (goodIn_of _ (by decide +kernel)) ggX6_isKey_X6_isWithin
theorem dX6_isKey_0 : decode cX6_isKey 0 = .ok (.iload_n 0, 1) := by decide +kernel
theorem dX6_isKey_1 : decode cX6_isKey 1 = .ok (.bipush 9, 2) := by decide +kernel
theorem dX6_isKey_3 : decode cX6_isKey 3 = .ok (.invokestatic 76, 3) := by decide +kernel
theorem dX6_isKey_6 : decode cX6_isKey 6 = .ok (.ireturn, 1) := by decide +kernel
set_option maxRecDepth 20000 in
theorem ggX6_isRow_X6_isKey : GoodIn wsX6_isRow wsX6_isKey := goodIn_r _ [4, 5, 6, 3, 7] (by decide +kernel) (by decide +kernel)
set_option maxRecDepth 20000 in
theorem gX6_isRow_X6_isKey : GoodIn wsX6_isRow (va_wsS RX6 147 yX6_isKey wsX6_isKey) := goodIn_app (goodIn_of _ (by decide +kernel)) ggX6_isRow_X6_isKey
set_option maxRecDepth 20000 in
theorem ggX6_isRow_X6_isWithin : GoodIn wsX6_isRow wsX6_isWithin := goodIn_r _ [7] (by decide +kernel) (by decide +kernel)
set_option maxRecDepth 20000 in
theorem gX6_isRow_X6_isWithin : GoodIn wsX6_isRow (va_wsS RX6 76 yX6_isWithin wsX6_isWithin) := goodIn_app (goodIn_of _ (by decide +kernel)) ggX6_isRow_X6_isWithin
theorem dX6_isRow_0 : decode cX6_isRow 0 = .ok (.iload_n 0, 1) := by decide +kernel
theorem dX6_isRow_1 : decode cX6_isRow 1 = .ok (.invokestatic 147, 3) := by decide +kernel
theorem dX6_isRow_4 : decode cX6_isRow 4 = .ok (.ifCond .eq 16, 3) := by decide +kernel
theorem dX6_isRow_7 : decode cX6_isRow 7 = .ok (.iload_n 1, 1) := by decide +kernel
theorem dX6_isRow_8 : decode cX6_isRow 8 = .ok (.bipush 99, 2) := by decide +kernel
theorem dX6_isRow_10 : decode cX6_isRow 10 = .ok (.invokestatic 76, 3) := by decide +kernel
theorem dX6_isRow_13 : decode cX6_isRow 13 = .ok (.ifCond .eq 7, 3) := by decide +kernel
theorem dX6_isRow_16 : decode cX6_isRow 16 = .ok (.iconst 1, 1) := by decide +kernel
theorem dX6_isRow_17 : decode cX6_isRow 17 = .ok (.goto 4, 3) := by decide +kernel
theorem dX6_isRow_20 : decode cX6_isRow 20 = .ok (.iconst 0, 1) := by decide +kernel
theorem dX6_isRow_21 : decode cX6_isRow 21 = .ok (.ireturn, 1) := by decide +kernel
theorem dX6_copyNumbers_0 : decode cX6_copyNumbers 0 = .ok (.aload_n 0, 1) := by decide +kernel
theorem dX6_copyNumbers_1 : decode cX6_copyNumbers 1 = .ok (.iconst 0, 1) := by decide +kernel
theorem dX6_copyNumbers_2 : decode cX6_copyNumbers 2 = .ok (.aload_n 1, 1) := by decide +kernel
theorem dX6_copyNumbers_3 : decode cX6_copyNumbers 3 = .ok (.iconst 0, 1) := by decide +kernel
theorem dX6_copyNumbers_4 : decode cX6_copyNumbers 4 = .ok (.aload_n 0, 1) := by decide +kernel
theorem dX6_copyNumbers_5 : decode cX6_copyNumbers 5 = .ok (.arraylength, 1) := by decide +kernel
theorem dX6_copyNumbers_6 : decode cX6_copyNumbers 6 = .ok (.aload_n 1, 1) := by decide +kernel
theorem dX6_copyNumbers_7 : decode cX6_copyNumbers 7 = .ok (.arraylength, 1) := by decide +kernel
theorem dX6_copyNumbers_8 : decode cX6_copyNumbers 8 = .ok (.invokestatic 117, 3) := by decide +kernel
theorem dX6_copyNumbers_11 : decode cX6_copyNumbers 11 = .ok (.invokestatic 225, 3) := by decide +kernel
theorem dX6_copyNumbers_14 : decode cX6_copyNumbers 14 = .ok (.return_, 1) := by decide +kernel
theorem dX7_init_0 : decode cX7_init 0 = .ok (.aload_n 0, 1) := by decide +kernel
theorem dX7_init_1 : decode cX7_init 1 = .ok (.invokespecial 1, 3) := by decide +kernel
theorem dX7_init_4 : decode cX7_init 4 = .ok (.aload_n 0, 1) := by decide +kernel
theorem dX7_init_5 : decode cX7_init 5 = .ok (.bipush 127, 2) := by decide +kernel
theorem dX7_init_7 : decode cX7_init 7 = .ok (.newarray .int, 2) := by decide +kernel
theorem dX7_init_9 : decode cX7_init 9 = .ok (.putfield 7, 3) := by decide +kernel
theorem dX7_init_12 : decode cX7_init 12 = .ok (.aload_n 0, 1) := by decide +kernel
theorem dX7_init_13 : decode cX7_init 13 = .ok (.sipush 508, 3) := by decide +kernel
theorem dX7_init_16 : decode cX7_init 16 = .ok (.newarray .int, 2) := by decide +kernel
theorem dX7_init_18 : decode cX7_init 18 = .ok (.putfield 13, 3) := by decide +kernel
theorem dX7_init_21 : decode cX7_init 21 = .ok (.aload_n 0, 1) := by decide +kernel
theorem dX7_init_22 : decode cX7_init 22 = .ok (.bipush 127, 2) := by decide +kernel
theorem dX7_init_24 : decode cX7_init 24 = .ok (.newarray .int, 2) := by decide +kernel
theorem dX7_init_26 : decode cX7_init 26 = .ok (.putfield 16, 3) := by decide +kernel
theorem dX7_init_29 : decode cX7_init 29 = .ok (.aload_n 0, 1) := by decide +kernel
theorem dX7_init_30 : decode cX7_init 30 = .ok (.bipush 127, 2) := by decide +kernel
theorem dX7_init_32 : decode cX7_init 32 = .ok (.newarray .int, 2) := by decide +kernel
theorem dX7_init_34 : decode cX7_init 34 = .ok (.putfield 19, 3) := by decide +kernel
theorem dX7_init_37 : decode cX7_init 37 = .ok (.aload_n 0, 1) := by decide +kernel
theorem dX7_init_38 : decode cX7_init 38 = .ok (.bipush 60, 2) := by decide +kernel
theorem dX7_init_40 : decode cX7_init 40 = .ok (.newarray .int, 2) := by decide +kernel
theorem dX7_init_42 : decode cX7_init 42 = .ok (.putfield 22, 3) := by decide +kernel
theorem dX7_init_45 : decode cX7_init 45 = .ok (.aload_n 0, 1) := by decide +kernel
theorem dX7_init_46 : decode cX7_init 46 = .ok (.iconst 3, 1) := by decide +kernel
theorem dX7_init_47 : decode cX7_init 47 = .ok (.newarray .int, 2) := by decide +kernel
theorem dX7_init_49 : decode cX7_init 49 = .ok (.putfield 25, 3) := by decide +kernel
theorem dX7_init_52 : decode cX7_init 52 = .ok (.aload_n 0, 1) := by decide +kernel
theorem dX7_init_53 : decode cX7_init 53 = .ok (.bipush 124, 2) := by decide +kernel
theorem dX7_init_55 : decode cX7_init 55 = .ok (.newarray .int, 2) := by decide +kernel
theorem dX7_init_57 : decode cX7_init 57 = .ok (.putfield 28, 3) := by decide +kernel
theorem dX7_init_60 : decode cX7_init 60 = .ok (.aload_n 0, 1) := by decide +kernel
theorem dX7_init_61 : decode cX7_init 61 = .ok (.getfield 7, 3) := by decide +kernel
theorem dX7_init_64 : decode cX7_init 64 = .ok (.iconst 0, 1) := by decide +kernel
theorem dX7_init_65 : decode cX7_init 65 = .ok (.bipush 12, 2) := by decide +kernel
theorem dX7_init_67 : decode cX7_init 67 = .ok (.iastore, 1) := by decide +kernel
theorem dX7_init_68 : decode cX7_init 68 = .ok (.aload_n 0, 1) := by decide +kernel
theorem dX7_init_69 : decode cX7_init 69 = .ok (.getfield 7, 3) := by decide +kernel
theorem dX7_init_72 : decode cX7_init 72 = .ok (.iconst 4, 1) := by decide +kernel
theorem dX7_init_73 : decode cX7_init 73 = .ok (.bipush 99, 2) := by decide +kernel
theorem dX7_init_75 : decode cX7_init 75 = .ok (.iastore, 1) := by decide +kernel
theorem dX7_init_76 : decode cX7_init 76 = .ok (.return_, 1) := by decide +kernel
theorem dX7_in_0 : decode cX7_in 0 = .ok (.iload_n 0, 1) := by decide +kernel
theorem dX7_in_1 : decode cX7_in 1 = .ok (.iload_n 1, 1) := by decide +kernel
theorem dX7_in_2 : decode cX7_in 2 = .ok (.if_icmp .lt 12, 3) := by decide +kernel
theorem dX7_in_5 : decode cX7_in 5 = .ok (.iload_n 0, 1) := by decide +kernel
theorem dX7_in_6 : decode cX7_in 6 = .ok (.iload_n 2, 1) := by decide +kernel
theorem dX7_in_7 : decode cX7_in 7 = .ok (.if_icmp .gt 7, 3) := by decide +kernel
theorem dX7_in_10 : decode cX7_in 10 = .ok (.iconst 1, 1) := by decide +kernel
theorem dX7_in_11 : decode cX7_in 11 = .ok (.goto 4, 3) := by decide +kernel
theorem dX7_in_14 : decode cX7_in 14 = .ok (.iconst 0, 1) := by decide +kernel
theorem dX7_in_15 : decode cX7_in 15 = .ok (.ireturn, 1) := by decide +kernel
theorem dX7_changes_0 : decode cX7_changes 0 = .ok (.aload_n 0, 1) := by decide +kernel
theorem dX7_changes_1 : decode cX7_changes 1 = .ok (.getfield 31, 3) := by decide +kernel
theorem dX7_changes_4 : decode cX7_changes 4 = .ok (.ifCond .eq 4, 3) := by decide +kernel
theorem dX7_changes_7 : decode cX7_changes 7 = .ok (.return_, 1) := by decide +kernel
theorem dX7_changes_8 : decode cX7_changes 8 = .ok (.aload_n 0, 1) := by decide +kernel
theorem dX7_changes_9 : decode cX7_changes 9 = .ok (.getfield 35, 3) := by decide +kernel
theorem dX7_changes_12 : decode cX7_changes 12 = .ok (.iconst 4, 1) := by decide +kernel
theorem dX7_changes_13 : decode cX7_changes 13 = .ok (.if_icmp .ne 43, 3) := by decide +kernel
theorem dX7_changes_16 : decode cX7_changes 16 = .ok (.iconst 0, 1) := by decide +kernel
theorem dX7_changes_17 : decode cX7_changes 17 = .ok (.istore_n 1, 1) := by decide +kernel
theorem dX7_changes_18 : decode cX7_changes 18 = .ok (.iload_n 1, 1) := by decide +kernel
theorem dX7_changes_19 : decode cX7_changes 19 = .ok (.sipush 381, 3) := by decide +kernel
theorem dX7_changes_22 : decode cX7_changes 22 = .ok (.if_icmp .ge 24, 3) := by decide +kernel
theorem dX7_changes_25 : decode cX7_changes 25 = .ok (.aload_n 0, 1) := by decide +kernel
theorem dX7_changes_26 : decode cX7_changes 26 = .ok (.getfield 13, 3) := by decide +kernel
theorem dX7_changes_29 : decode cX7_changes 29 = .ok (.iload_n 1, 1) := by decide +kernel
theorem dX7_changes_30 : decode cX7_changes 30 = .ok (.aload_n 0, 1) := by decide +kernel
theorem dX7_changes_31 : decode cX7_changes 31 = .ok (.getfield 13, 3) := by decide +kernel
theorem dX7_changes_34 : decode cX7_changes 34 = .ok (.iload_n 1, 1) := by decide +kernel
theorem dX7_changes_35 : decode cX7_changes 35 = .ok (.bipush 127, 2) := by decide +kernel
theorem dX7_changes_37 : decode cX7_changes 37 = .ok (.iadd, 1) := by decide +kernel
theorem dX7_changes_38 : decode cX7_changes 38 = .ok (.iaload, 1) := by decide +kernel
theorem dX7_changes_39 : decode cX7_changes 39 = .ok (.iastore, 1) := by decide +kernel
theorem dX7_changes_40 : decode cX7_changes 40 = .ok (.iinc 1 1, 3) := by decide +kernel
theorem dX7_changes_43 : decode cX7_changes 43 = .ok (.goto (-25), 3) := by decide +kernel
theorem dX7_changes_46 : decode cX7_changes 46 = .ok (.aload_n 0, 1) := by decide +kernel
theorem dX7_changes_47 : decode cX7_changes 47 = .ok (.dup, 1) := by decide +kernel
theorem dX7_changes_48 : decode cX7_changes 48 = .ok (.getfield 35, 3) := by decide +kernel
theorem dX7_changes_51 : decode cX7_changes 51 = .ok (.iconst 1, 1) := by decide +kernel
theorem dX7_changes_52 : decode cX7_changes 52 = .ok (.isub, 1) := by decide +kernel
theorem dX7_changes_53 : decode cX7_changes 53 = .ok (.putfield 35, 3) := by decide +kernel
theorem dX7_changes_56 : decode cX7_changes 56 = .ok (.iconst 0, 1) := by decide +kernel
theorem dX7_changes_57 : decode cX7_changes 57 = .ok (.istore_n 1, 1) := by decide +kernel
theorem dX7_changes_58 : decode cX7_changes 58 = .ok (.iload_n 1, 1) := by decide +kernel
theorem dX7_changes_59 : decode cX7_changes 59 = .ok (.bipush 127, 2) := by decide +kernel
theorem dX7_changes_61 : decode cX7_changes 61 = .ok (.if_icmp .ge 29, 3) := by decide +kernel
theorem dX7_changes_64 : decode cX7_changes 64 = .ok (.aload_n 0, 1) := by decide +kernel
theorem dX7_changes_65 : decode cX7_changes 65 = .ok (.getfield 13, 3) := by decide +kernel
theorem dX7_changes_68 : decode cX7_changes 68 = .ok (.bipush 127, 2) := by decide +kernel
theorem dX7_changes_70 : decode cX7_changes 70 = .ok (.aload_n 0, 1) := by decide +kernel
theorem dX7_changes_71 : decode cX7_changes 71 = .ok (.getfield 35, 3) := by decide +kernel
theorem dX7_changes_74 : decode cX7_changes 74 = .ok (.imul, 1) := by decide +kernel
theorem dX7_changes_75 : decode cX7_changes 75 = .ok (.iload_n 1, 1) := by decide +kernel
theorem dX7_changes_76 : decode cX7_changes 76 = .ok (.iadd, 1) := by decide +kernel
theorem dX7_changes_77 : decode cX7_changes 77 = .ok (.aload_n 0, 1) := by decide +kernel
theorem dX7_changes_78 : decode cX7_changes 78 = .ok (.getfield 7, 3) := by decide +kernel
theorem dX7_changes_81 : decode cX7_changes 81 = .ok (.iload_n 1, 1) := by decide +kernel
theorem dX7_changes_82 : decode cX7_changes 82 = .ok (.iaload, 1) := by decide +kernel
theorem dX7_changes_83 : decode cX7_changes 83 = .ok (.iastore, 1) := by decide +kernel
theorem dX7_changes_84 : decode cX7_changes 84 = .ok (.iinc 1 1, 3) := by decide +kernel
theorem dX7_changes_87 : decode cX7_changes 87 = .ok (.goto (-29), 3) := by decide +kernel
theorem dX7_changes_90 : decode cX7_changes 90 = .ok (.aload_n 0, 1) := by decide +kernel
theorem dX7_changes_91 : decode cX7_changes 91 = .ok (.dup, 1) := by decide +kernel
theorem dX7_changes_92 : decode cX7_changes 92 = .ok (.getfield 35, 3) := by decide +kernel
theorem dX7_changes_95 : decode cX7_changes 95 = .ok (.iconst 1, 1) := by decide +kernel
theorem dX7_changes_96 : decode cX7_changes 96 = .ok (.iadd, 1) := by decide +kernel
theorem dX7_changes_97 : decode cX7_changes 97 = .ok (.putfield 35, 3) := by decide +kernel
theorem dX7_changes_100 : decode cX7_changes 100 = .ok (.return_, 1) := by decide +kernel
theorem dX7_putsAside_0 : decode cX7_putsAside 0 = .ok (.iconst 0, 1) := by decide +kernel
theorem dX7_putsAside_1 : decode cX7_putsAside 1 = .ok (.istore_n 1, 1) := by decide +kernel
theorem dX7_putsAside_2 : decode cX7_putsAside 2 = .ok (.iload_n 1, 1) := by decide +kernel
theorem dX7_putsAside_3 : decode cX7_putsAside 3 = .ok (.bipush 127, 2) := by decide +kernel
theorem dX7_putsAside_5 : decode cX7_putsAside 5 = .ok (.if_icmp .ge 21, 3) := by decide +kernel
theorem dX7_putsAside_8 : decode cX7_putsAside 8 = .ok (.aload_n 0, 1) := by decide +kernel
theorem dX7_putsAside_9 : decode cX7_putsAside 9 = .ok (.getfield 19, 3) := by decide +kernel
theorem dX7_putsAside_12 : decode cX7_putsAside 12 = .ok (.iload_n 1, 1) := by decide +kernel
theorem dX7_putsAside_13 : decode cX7_putsAside 13 = .ok (.aload_n 0, 1) := by decide +kernel
theorem dX7_putsAside_14 : decode cX7_putsAside 14 = .ok (.getfield 7, 3) := by decide +kernel
theorem dX7_putsAside_17 : decode cX7_putsAside 17 = .ok (.iload_n 1, 1) := by decide +kernel
theorem dX7_putsAside_18 : decode cX7_putsAside 18 = .ok (.iaload, 1) := by decide +kernel
theorem dX7_putsAside_19 : decode cX7_putsAside 19 = .ok (.iastore, 1) := by decide +kernel
theorem dX7_putsAside_20 : decode cX7_putsAside 20 = .ok (.iinc 1 1, 3) := by decide +kernel
theorem dX7_putsAside_23 : decode cX7_putsAside 23 = .ok (.goto (-21), 3) := by decide +kernel
theorem dX7_putsAside_26 : decode cX7_putsAside 26 = .ok (.return_, 1) := by decide +kernel
theorem dX7_putsBack_0 : decode cX7_putsBack 0 = .ok (.iconst 0, 1) := by decide +kernel
theorem dX7_putsBack_1 : decode cX7_putsBack 1 = .ok (.istore_n 1, 1) := by decide +kernel
theorem dX7_putsBack_2 : decode cX7_putsBack 2 = .ok (.iload_n 1, 1) := by decide +kernel
theorem dX7_putsBack_3 : decode cX7_putsBack 3 = .ok (.bipush 127, 2) := by decide +kernel
theorem dX7_putsBack_5 : decode cX7_putsBack 5 = .ok (.if_icmp .ge 21, 3) := by decide +kernel
theorem dX7_putsBack_8 : decode cX7_putsBack 8 = .ok (.aload_n 0, 1) := by decide +kernel
theorem dX7_putsBack_9 : decode cX7_putsBack 9 = .ok (.getfield 7, 3) := by decide +kernel
theorem dX7_putsBack_12 : decode cX7_putsBack 12 = .ok (.iload_n 1, 1) := by decide +kernel
theorem dX7_putsBack_13 : decode cX7_putsBack 13 = .ok (.aload_n 0, 1) := by decide +kernel
theorem dX7_putsBack_14 : decode cX7_putsBack 14 = .ok (.getfield 19, 3) := by decide +kernel
theorem dX7_putsBack_17 : decode cX7_putsBack 17 = .ok (.iload_n 1, 1) := by decide +kernel
theorem dX7_putsBack_18 : decode cX7_putsBack 18 = .ok (.iaload, 1) := by decide +kernel
theorem dX7_putsBack_19 : decode cX7_putsBack 19 = .ok (.iastore, 1) := by decide +kernel
theorem dX7_putsBack_20 : decode cX7_putsBack 20 = .ok (.iinc 1 1, 3) := by decide +kernel
theorem dX7_putsBack_23 : decode cX7_putsBack 23 = .ok (.goto (-21), 3) := by decide +kernel
theorem dX7_putsBack_26 : decode cX7_putsBack 26 = .ok (.return_, 1) := by decide +kernel
set_option maxRecDepth 20000 in
theorem ggX7_isRowOf_X7_in : GoodIn wsX7_isRowOf wsX7_in := goodIn_r _ [4] (by decide +kernel) (by decide +kernel)
set_option maxRecDepth 20000 in
theorem gX7_isRowOf_X7_in : GoodIn wsX7_isRowOf (va_wsS RX7 39 yX7_in wsX7_in) := goodIn_app (goodIn_of _ (by decide +kernel)) ggX7_isRowOf_X7_in
theorem dX7_isRowOf_0 : decode cX7_isRowOf 0 = .ok (.iload_n 0, 1) := by decide +kernel
theorem dX7_isRowOf_1 : decode cX7_isRowOf 1 = .ok (.iconst 0, 1) := by decide +kernel
theorem dX7_isRowOf_2 : decode cX7_isRowOf 2 = .ok (.bipush 9, 2) := by decide +kernel
theorem dX7_isRowOf_4 : decode cX7_isRowOf 4 = .ok (.invokestatic 39, 3) := by decide +kernel
theorem dX7_isRowOf_7 : decode cX7_isRowOf 7 = .ok (.ifCond .eq 17, 3) := by decide +kernel
theorem dX7_isRowOf_10 : decode cX7_isRowOf 10 = .ok (.iload_n 1, 1) := by decide +kernel
theorem dX7_isRowOf_11 : decode cX7_isRowOf 11 = .ok (.iconst 0, 1) := by decide +kernel
theorem dX7_isRowOf_12 : decode cX7_isRowOf 12 = .ok (.bipush 99, 2) := by decide +kernel
theorem dX7_isRowOf_14 : decode cX7_isRowOf 14 = .ok (.invokestatic 39, 3) := by decide +kernel
theorem dX7_isRowOf_17 : decode cX7_isRowOf 17 = .ok (.ifCond .eq 7, 3) := by decide +kernel
theorem dX7_isRowOf_20 : decode cX7_isRowOf 20 = .ok (.iconst 1, 1) := by decide +kernel
theorem dX7_isRowOf_21 : decode cX7_isRowOf 21 = .ok (.goto 4, 3) := by decide +kernel
theorem dX7_isRowOf_24 : decode cX7_isRowOf 24 = .ok (.iconst 0, 1) := by decide +kernel
theorem dX7_isRowOf_25 : decode cX7_isRowOf 25 = .ok (.ireturn, 1) := by decide +kernel
set_option maxRecDepth 20000 in
theorem ggX7_isInner_X7_in : GoodIn wsX7_isInner wsX7_in := goodIn_r _ [5] (by decide +kernel) (by decide +kernel)
set_option maxRecDepth 20000 in
theorem gX7_isInner_X7_in : GoodIn wsX7_isInner (va_wsS RX7 39 yX7_in wsX7_in) := goodIn_app (goodIn_of _ (by decide +kernel)) ggX7_isInner_X7_in
theorem dX7_isInner_0 : decode cX7_isInner 0 = .ok (.iload_n 1, 1) := by decide +kernel
theorem dX7_isInner_1 : decode cX7_isInner 1 = .ok (.iconst 0, 1) := by decide +kernel
theorem dX7_isInner_2 : decode cX7_isInner 2 = .ok (.aload_n 0, 1) := by decide +kernel
theorem dX7_isInner_3 : decode cX7_isInner 3 = .ok (.getfield 7, 3) := by decide +kernel
theorem dX7_isInner_6 : decode cX7_isInner 6 = .ok (.iconst 5, 1) := by decide +kernel
theorem dX7_isInner_7 : decode cX7_isInner 7 = .ok (.iaload, 1) := by decide +kernel
theorem dX7_isInner_8 : decode cX7_isInner 8 = .ok (.iconst 1, 1) := by decide +kernel
theorem dX7_isInner_9 : decode cX7_isInner 9 = .ok (.isub, 1) := by decide +kernel
theorem dX7_isInner_10 : decode cX7_isInner 10 = .ok (.invokestatic 39, 3) := by decide +kernel
theorem dX7_isInner_13 : decode cX7_isInner 13 = .ok (.ireturn, 1) := by decide +kernel
set_option maxRecDepth 20000 in
theorem ggX7_isOuter_X7_in : GoodIn wsX7_isOuter wsX7_in := goodIn_r _ [5] (by decide +kernel) (by decide +kernel)
set_option maxRecDepth 20000 in
theorem gX7_isOuter_X7_in : GoodIn wsX7_isOuter (va_wsS RX7 39 yX7_in wsX7_in) := goodIn_app (goodIn_of _ (by decide +kernel)) ggX7_isOuter_X7_in
theorem dX7_isOuter_0 : decode cX7_isOuter 0 = .ok (.iload_n 1, 1) := by decide +kernel
theorem dX7_isOuter_1 : decode cX7_isOuter 1 = .ok (.iconst 0, 1) := by decide +kernel
theorem dX7_isOuter_2 : decode cX7_isOuter 2 = .ok (.aload_n 0, 1) := by decide +kernel
theorem dX7_isOuter_3 : decode cX7_isOuter 3 = .ok (.getfield 7, 3) := by decide +kernel
theorem dX7_isOuter_6 : decode cX7_isOuter 6 = .ok (.bipush 6, 2) := by decide +kernel
theorem dX7_isOuter_8 : decode cX7_isOuter 8 = .ok (.iaload, 1) := by decide +kernel
theorem dX7_isOuter_9 : decode cX7_isOuter 9 = .ok (.iconst 1, 1) := by decide +kernel
theorem dX7_isOuter_10 : decode cX7_isOuter 10 = .ok (.isub, 1) := by decide +kernel
theorem dX7_isOuter_11 : decode cX7_isOuter 11 = .ok (.invokestatic 39, 3) := by decide +kernel
theorem dX7_isOuter_14 : decode cX7_isOuter 14 = .ok (.ireturn, 1) := by decide +kernel
theorem dX7_innerKey_0 : decode cX7_innerKey 0 = .ok (.aload_n 0, 1) := by decide +kernel
theorem dX7_innerKey_1 : decode cX7_innerKey 1 = .ok (.getfield 7, 3) := by decide +kernel
theorem dX7_innerKey_4 : decode cX7_innerKey 4 = .ok (.bipush 17, 2) := by decide +kernel
theorem dX7_innerKey_6 : decode cX7_innerKey 6 = .ok (.iconst 2, 1) := by decide +kernel
theorem dX7_innerKey_7 : decode cX7_innerKey 7 = .ok (.iload_n 1, 1) := by decide +kernel
theorem dX7_innerKey_8 : decode cX7_innerKey 8 = .ok (.imul, 1) := by decide +kernel
theorem dX7_innerKey_9 : decode cX7_innerKey 9 = .ok (.iadd, 1) := by decide +kernel
theorem dX7_innerKey_10 : decode cX7_innerKey 10 = .ok (.iaload, 1) := by decide +kernel
theorem dX7_innerKey_11 : decode cX7_innerKey 11 = .ok (.ireturn, 1) := by decide +kernel
theorem dX7_innerValue_0 : decode cX7_innerValue 0 = .ok (.aload_n 0, 1) := by decide +kernel
theorem dX7_innerValue_1 : decode cX7_innerValue 1 = .ok (.getfield 7, 3) := by decide +kernel
theorem dX7_innerValue_4 : decode cX7_innerValue 4 = .ok (.bipush 17, 2) := by decide +kernel
theorem dX7_innerValue_6 : decode cX7_innerValue 6 = .ok (.iconst 2, 1) := by decide +kernel
theorem dX7_innerValue_7 : decode cX7_innerValue 7 = .ok (.iload_n 1, 1) := by decide +kernel
theorem dX7_innerValue_8 : decode cX7_innerValue 8 = .ok (.imul, 1) := by decide +kernel
theorem dX7_innerValue_9 : decode cX7_innerValue 9 = .ok (.iadd, 1) := by decide +kernel
theorem dX7_innerValue_10 : decode cX7_innerValue 10 = .ok (.iconst 1, 1) := by decide +kernel
theorem dX7_innerValue_11 : decode cX7_innerValue 11 = .ok (.iadd, 1) := by decide +kernel
theorem dX7_innerValue_12 : decode cX7_innerValue 12 = .ok (.iaload, 1) := by decide +kernel
theorem dX7_innerValue_13 : decode cX7_innerValue 13 = .ok (.ireturn, 1) := by decide +kernel
set_option maxRecDepth 20000 in
theorem ggX7_isFound_X7_innerKey : GoodIn wsX7_isFound wsX7_innerKey := goodIn_r _ [6, 1, 14, 15, 16, 17, 18, 19, 20, 21, 22, 23, 24, 25, 26, 27] (by decide +kernel) (by decide +kernel)
set_option maxRecDepth 20000 in
theorem gX7_isFound_X7_innerKey : GoodIn wsX7_isFound (wsV RX7 43 RX7 yX7_innerKey wsX7_innerKey) := goodIn_app (goodIn_of _ (by decide +kernel)) ggX7_isFound_X7_innerKey
set_option maxRecDepth 20000 in
theorem ggX7_isFound_X7_innerValue : GoodIn wsX7_isFound wsX7_innerValue := goodIn_r _ [10, 1, 14, 15, 16, 17, 18, 19, 20, 21, 22, 23, 24, 25, 26, 27] (by decide +kernel) (by decide +kernel)
set_option maxRecDepth 20000 in
theorem gX7_isFound_X7_innerValue : GoodIn wsX7_isFound (wsV RX7 47 RX7 yX7_innerValue wsX7_innerValue) := goodIn_app (goodIn_of _ (by decide +kernel)) ggX7_isFound_X7_innerValue
set_option maxRecDepth 20000 in
theorem ggX7_isFound_X7_in : GoodIn wsX7_isFound wsX7_in := goodIn_r _ [13] (by decide +kernel) (by decide +kernel)
set_option maxRecDepth 20000 in
theorem gX7_isFound_X7_in : GoodIn wsX7_isFound (va_wsS RX7 39 yX7_in wsX7_in) := goodIn_app (goodIn_of _ (by decide +kernel)) ggX7_isFound_X7_in
theorem dX7_isFound_0 : decode cX7_isFound 0 = .ok (.aload_n 0, 1) := by decide +kernel
theorem dX7_isFound_1 : decode cX7_isFound 1 = .ok (.iload_n 1, 1) := by decide +kernel
theorem dX7_isFound_2 : decode cX7_isFound 2 = .ok (.invokevirtual 43, 3) := by decide +kernel
theorem dX7_isFound_5 : decode cX7_isFound 5 = .ok (.iload_n 2, 1) := by decide +kernel
theorem dX7_isFound_6 : decode cX7_isFound 6 = .ok (.if_icmp .ne 30, 3) := by decide +kernel
theorem dX7_isFound_9 : decode cX7_isFound 9 = .ok (.aload_n 0, 1) := by decide +kernel
theorem dX7_isFound_10 : decode cX7_isFound 10 = .ok (.iload_n 1, 1) := by decide +kernel
theorem dX7_isFound_11 : decode cX7_isFound 11 = .ok (.invokevirtual 47, 3) := by decide +kernel
theorem dX7_isFound_14 : decode cX7_isFound 14 = .ok (.aload_n 0, 1) := by decide +kernel
theorem dX7_isFound_15 : decode cX7_isFound 15 = .ok (.getfield 7, 3) := by decide +kernel
theorem dX7_isFound_18 : decode cX7_isFound 18 = .ok (.iconst 3, 1) := by decide +kernel
theorem dX7_isFound_19 : decode cX7_isFound 19 = .ok (.iaload, 1) := by decide +kernel
theorem dX7_isFound_20 : decode cX7_isFound 20 = .ok (.aload_n 0, 1) := by decide +kernel
theorem dX7_isFound_21 : decode cX7_isFound 21 = .ok (.getfield 7, 3) := by decide +kernel
theorem dX7_isFound_24 : decode cX7_isFound 24 = .ok (.iconst 4, 1) := by decide +kernel
theorem dX7_isFound_25 : decode cX7_isFound 25 = .ok (.iaload, 1) := by decide +kernel
theorem dX7_isFound_26 : decode cX7_isFound 26 = .ok (.invokestatic 39, 3) := by decide +kernel
theorem dX7_isFound_29 : decode cX7_isFound 29 = .ok (.ifCond .eq 7, 3) := by decide +kernel
theorem dX7_isFound_32 : decode cX7_isFound 32 = .ok (.iconst 1, 1) := by decide +kernel
theorem dX7_isFound_33 : decode cX7_isFound 33 = .ok (.goto 4, 3) := by decide +kernel
theorem dX7_isFound_36 : decode cX7_isFound 36 = .ok (.iconst 0, 1) := by decide +kernel
theorem dX7_isFound_37 : decode cX7_isFound 37 = .ok (.ireturn, 1) := by decide +kernel
set_option maxRecDepth 20000 in
theorem ggX7_found_X7_isFound : GoodIn wsX7_found wsX7_isFound := goodIn_r _ [6, 1, 7, 8, 9, 5, 10, 11, 12, 13, 14, 15, 16, 17, 18, 19, 20, 21, 22, 23, 24, 25, 26, 27, 28, 29, 30, 31] (by decide +kernel) (by decide +kernel)
set_option maxRecDepth 20000 in
theorem gX7_found_X7_isFound : GoodIn wsX7_found (wsV RX7 50 RX7 yX7_isFound wsX7_isFound) := goodIn_app (goodIn_of _ (by decide +kernel)) ggX7_found_X7_isFound
theorem dX7_found_0 : decode cX7_found 0 = .ok (.iconst 0, 1) := by decide +kernel
theorem dX7_found_1 : decode cX7_found 1 = .ok (.istore_n 2, 1) := by decide +kernel
theorem dX7_found_2 : decode cX7_found 2 = .ok (.iconst 0, 1) := by decide +kernel
theorem dX7_found_3 : decode cX7_found 3 = .ok (.istore_n 3, 1) := by decide +kernel
theorem dX7_found_4 : decode cX7_found 4 = .ok (.iload_n 3, 1) := by decide +kernel
theorem dX7_found_5 : decode cX7_found 5 = .ok (.aload_n 0, 1) := by decide +kernel
theorem dX7_found_6 : decode cX7_found 6 = .ok (.getfield 7, 3) := by decide +kernel
theorem dX7_found_9 : decode cX7_found 9 = .ok (.iconst 5, 1) := by decide +kernel
theorem dX7_found_10 : decode cX7_found 10 = .ok (.iaload, 1) := by decide +kernel
theorem dX7_found_11 : decode cX7_found 11 = .ok (.if_icmp .ge 26, 3) := by decide +kernel
theorem dX7_found_14 : decode cX7_found 14 = .ok (.iload_n 2, 1) := by decide +kernel
theorem dX7_found_15 : decode cX7_found 15 = .ok (.aload_n 0, 1) := by decide +kernel
theorem dX7_found_16 : decode cX7_found 16 = .ok (.iload_n 3, 1) := by decide +kernel
theorem dX7_found_17 : decode cX7_found 17 = .ok (.iload_n 1, 1) := by decide +kernel
theorem dX7_found_18 : decode cX7_found 18 = .ok (.invokevirtual 50, 3) := by decide +kernel
theorem dX7_found_21 : decode cX7_found 21 = .ok (.ifCond .eq 7, 3) := by decide +kernel
theorem dX7_found_24 : decode cX7_found 24 = .ok (.iconst 1, 1) := by decide +kernel
theorem dX7_found_25 : decode cX7_found 25 = .ok (.goto 4, 3) := by decide +kernel
theorem dX7_found_28 : decode cX7_found 28 = .ok (.iconst 0, 1) := by decide +kernel
theorem dX7_found_29 : decode cX7_found 29 = .ok (.iadd, 1) := by decide +kernel
theorem dX7_found_30 : decode cX7_found 30 = .ok (.istore_n 2, 1) := by decide +kernel
theorem dX7_found_31 : decode cX7_found 31 = .ok (.iinc 3 1, 3) := by decide +kernel
theorem dX7_found_34 : decode cX7_found 34 = .ok (.goto (-30), 3) := by decide +kernel
theorem dX7_found_37 : decode cX7_found 37 = .ok (.iload_n 2, 1) := by decide +kernel
theorem dX7_found_38 : decode cX7_found 38 = .ok (.ireturn, 1) := by decide +kernel
set_option maxRecDepth 20000 in
theorem ggX7_weight_X7_found : GoodIn wsX7_weight wsX7_found := goodIn_r _ [5, 6, 7, 8, 9, 4, 10, 11, 12, 13, 14, 15, 16, 17, 18, 19, 20, 21, 22, 23, 24, 25, 26, 27, 28, 29, 30, 31, 32, 33, 34, 35] (by decide +kernel) (by decide +kernel)
set_option maxRecDepth 20000 in
theorem gX7_weight_X7_found : GoodIn wsX7_weight (wsV RX7 54 RX7 yX7_found wsX7_found) := goodIn_app (goodIn_of _ (by decide +kernel)) ggX7_weight_X7_found
theorem dX7_weight_0 : decode cX7_weight 0 = .ok (.iconst 2, 1) := by decide +kernel
theorem dX7_weight_1 : decode cX7_weight 1 = .ok (.aload_n 0, 1) := by decide +kernel
theorem dX7_weight_2 : decode cX7_weight 2 = .ok (.iload_n 1, 1) := by decide +kernel
theorem dX7_weight_3 : decode cX7_weight 3 = .ok (.invokevirtual 54, 3) := by decide +kernel
theorem dX7_weight_6 : decode cX7_weight 6 = .ok (.iadd, 1) := by decide +kernel
theorem dX7_weight_7 : decode cX7_weight 7 = .ok (.ireturn, 1) := by decide +kernel
set_option maxRecDepth 20000 in
theorem ggX7_sum_X7_isFound : GoodIn wsX7_sum wsX7_isFound := goodIn_r _ [6, 1, 7, 8, 9, 5, 10, 11, 12, 13, 14, 15, 16, 17, 18, 19, 20, 21, 22, 23, 24, 25, 26, 27, 28, 29, 30, 31] (by decide +kernel) (by decide +kernel)
set_option maxRecDepth 20000 in
theorem gX7_sum_X7_isFound : GoodIn wsX7_sum (wsV RX7 50 RX7 yX7_isFound wsX7_isFound) := goodIn_app (goodIn_of _ (by decide +kernel)) ggX7_sum_X7_isFound
set_option maxRecDepth 20000 in
theorem ggX7_sum_X7_innerValue : GoodIn wsX7_sum wsX7_innerValue := goodIn_r _ [14, 1, 18, 19, 20, 21, 22, 23, 24, 25, 26, 27, 28, 29, 30, 31] (by decide +kernel) (by decide +kernel)
set_option maxRecDepth 20000 in
theorem gX7_sum_X7_innerValue : GoodIn wsX7_sum (wsV RX7 47 RX7 yX7_innerValue wsX7_innerValue) := goodIn_app (goodIn_of _ (by decide +kernel)) ggX7_sum_X7_innerValue
theorem dX7_sum_0 : decode cX7_sum 0 = .ok (.iconst 0, 1) := by decide +kernel
theorem dX7_sum_1 : decode cX7_sum 1 = .ok (.istore_n 2, 1) := by decide +kernel
theorem dX7_sum_2 : decode cX7_sum 2 = .ok (.iconst 0, 1) := by decide +kernel
theorem dX7_sum_3 : decode cX7_sum 3 = .ok (.istore_n 3, 1) := by decide +kernel
theorem dX7_sum_4 : decode cX7_sum 4 = .ok (.iload_n 3, 1) := by decide +kernel
theorem dX7_sum_5 : decode cX7_sum 5 = .ok (.aload_n 0, 1) := by decide +kernel
theorem dX7_sum_6 : decode cX7_sum 6 = .ok (.getfield 7, 3) := by decide +kernel
theorem dX7_sum_9 : decode cX7_sum 9 = .ok (.iconst 5, 1) := by decide +kernel
theorem dX7_sum_10 : decode cX7_sum 10 = .ok (.iaload, 1) := by decide +kernel
theorem dX7_sum_11 : decode cX7_sum 11 = .ok (.if_icmp .ge 30, 3) := by decide +kernel
theorem dX7_sum_14 : decode cX7_sum 14 = .ok (.iload_n 2, 1) := by decide +kernel
theorem dX7_sum_15 : decode cX7_sum 15 = .ok (.aload_n 0, 1) := by decide +kernel
theorem dX7_sum_16 : decode cX7_sum 16 = .ok (.iload_n 3, 1) := by decide +kernel
theorem dX7_sum_17 : decode cX7_sum 17 = .ok (.iload_n 1, 1) := by decide +kernel
theorem dX7_sum_18 : decode cX7_sum 18 = .ok (.invokevirtual 50, 3) := by decide +kernel
theorem dX7_sum_21 : decode cX7_sum 21 = .ok (.ifCond .eq 11, 3) := by decide +kernel
theorem dX7_sum_24 : decode cX7_sum 24 = .ok (.aload_n 0, 1) := by decide +kernel
theorem dX7_sum_25 : decode cX7_sum 25 = .ok (.iload_n 3, 1) := by decide +kernel
theorem dX7_sum_26 : decode cX7_sum 26 = .ok (.invokevirtual 47, 3) := by decide +kernel
theorem dX7_sum_29 : decode cX7_sum 29 = .ok (.goto 4, 3) := by decide +kernel
theorem dX7_sum_32 : decode cX7_sum 32 = .ok (.iconst 0, 1) := by decide +kernel
theorem dX7_sum_33 : decode cX7_sum 33 = .ok (.iadd, 1) := by decide +kernel
theorem dX7_sum_34 : decode cX7_sum 34 = .ok (.istore_n 2, 1) := by decide +kernel
theorem dX7_sum_35 : decode cX7_sum 35 = .ok (.iinc 3 1, 3) := by decide +kernel
theorem dX7_sum_38 : decode cX7_sum 38 = .ok (.goto (-34), 3) := by decide +kernel
theorem dX7_sum_41 : decode cX7_sum 41 = .ok (.iload_n 2, 1) := by decide +kernel
theorem dX7_sum_42 : decode cX7_sum 42 = .ok (.ireturn, 1) := by decide +kernel
set_option maxRecDepth 20000 in
theorem ggX7_firstRow_X7_isFound : GoodIn wsX7_firstRow wsX7_isFound := goodIn_r _ [6, 1, 7, 8, 9, 5, 10, 11, 12, 13, 14, 15, 16, 17, 18, 19, 20, 21, 22, 23, 24, 25, 26, 27, 28, 29, 30, 31] (by decide +kernel) (by decide +kernel)
set_option maxRecDepth 20000 in
theorem gX7_firstRow_X7_isFound : GoodIn wsX7_firstRow (wsV RX7 50 RX7 yX7_isFound wsX7_isFound) := goodIn_app (goodIn_of _ (by decide +kernel)) ggX7_firstRow_X7_isFound
theorem dX7_firstRow_0 : decode cX7_firstRow 0 = .ok (.iconst 0, 1) := by decide +kernel
theorem dX7_firstRow_1 : decode cX7_firstRow 1 = .ok (.istore_n 2, 1) := by decide +kernel
theorem dX7_firstRow_2 : decode cX7_firstRow 2 = .ok (.iload_n 2, 1) := by decide +kernel
theorem dX7_firstRow_3 : decode cX7_firstRow 3 = .ok (.aload_n 0, 1) := by decide +kernel
theorem dX7_firstRow_4 : decode cX7_firstRow 4 = .ok (.getfield 7, 3) := by decide +kernel
theorem dX7_firstRow_7 : decode cX7_firstRow 7 = .ok (.iconst 5, 1) := by decide +kernel
theorem dX7_firstRow_8 : decode cX7_firstRow 8 = .ok (.iaload, 1) := by decide +kernel
theorem dX7_firstRow_9 : decode cX7_firstRow 9 = .ok (.if_icmp .ge 20, 3) := by decide +kernel
theorem dX7_firstRow_12 : decode cX7_firstRow 12 = .ok (.aload_n 0, 1) := by decide +kernel
theorem dX7_firstRow_13 : decode cX7_firstRow 13 = .ok (.iload_n 2, 1) := by decide +kernel
theorem dX7_firstRow_14 : decode cX7_firstRow 14 = .ok (.iload_n 1, 1) := by decide +kernel
theorem dX7_firstRow_15 : decode cX7_firstRow 15 = .ok (.invokevirtual 50, 3) := by decide +kernel
theorem dX7_firstRow_18 : decode cX7_firstRow 18 = .ok (.ifCond .eq 5, 3) := by decide +kernel
theorem dX7_firstRow_21 : decode cX7_firstRow 21 = .ok (.iload_n 2, 1) := by decide +kernel
theorem dX7_firstRow_22 : decode cX7_firstRow 22 = .ok (.ireturn, 1) := by decide +kernel
theorem dX7_firstRow_23 : decode cX7_firstRow 23 = .ok (.iinc 2 1, 3) := by decide +kernel
theorem dX7_firstRow_26 : decode cX7_firstRow 26 = .ok (.goto (-24), 3) := by decide +kernel
theorem dX7_firstRow_29 : decode cX7_firstRow 29 = .ok (.bipush (-4), 2) := by decide +kernel
theorem dX7_firstRow_31 : decode cX7_firstRow 31 = .ok (.ireturn, 1) := by decide +kernel
set_option maxRecDepth 20000 in
theorem ggX7_tell_X7_found : GoodIn wsX7_tell wsX7_found := goodIn_r _ [5, 6, 7, 8, 9, 4, 10, 11, 12, 13, 14, 15, 16, 17, 18, 19, 20, 21, 34, 35, 36, 37, 38, 39, 40, 41, 42, 43, 44, 45, 46, 47] (by decide +kernel) (by decide +kernel)
set_option maxRecDepth 20000 in
theorem gX7_tell_X7_found : GoodIn wsX7_tell (wsV RX7 54 RX7 yX7_found wsX7_found) := goodIn_app (goodIn_of _ (by decide +kernel)) ggX7_tell_X7_found
set_option maxRecDepth 20000 in
theorem ggX7_tell_X7_weight : GoodIn wsX7_tell wsX7_weight := goodIn_r _ [25, 1, 2, 3, 4, 5, 6, 7, 8, 9, 10, 11, 12, 13, 14, 15, 16, 17, 18, 19, 20, 21, 34, 35, 36, 37, 38, 39, 40, 41, 42, 43, 44, 45, 46, 47] (by decide +kernel) (by decide +kernel)
set_option maxRecDepth 20000 in
theorem gX7_tell_X7_weight : GoodIn wsX7_tell (wsV RX7 57 RX7 yX7_weight wsX7_weight) := goodIn_app (goodIn_of _ (by decide +kernel)) ggX7_tell_X7_weight
set_option maxRecDepth 20000 in
theorem ggX7_tell_X7_sum : GoodIn wsX7_tell wsX7_sum := goodIn_r _ [29, 6, 7, 8, 9, 4, 10, 11, 12, 13, 14, 15, 16, 17, 18, 19, 20, 21, 34, 35, 36, 37, 38, 39, 40, 41, 42, 43, 44, 45, 46, 47] (by decide +kernel) (by decide +kernel)
set_option maxRecDepth 20000 in
theorem gX7_tell_X7_sum : GoodIn wsX7_tell (wsV RX7 60 RX7 yX7_sum wsX7_sum) := goodIn_app (goodIn_of _ (by decide +kernel)) ggX7_tell_X7_sum
set_option maxRecDepth 20000 in
theorem ggX7_tell_X7_firstRow : GoodIn wsX7_tell wsX7_firstRow := goodIn_r _ [33, 6, 7, 8, 9, 4, 10, 11, 12, 13, 14, 15, 16, 17, 18, 19, 20, 21, 34, 35, 36, 37, 38, 39, 40, 41, 42, 43, 44, 45, 46, 47] (by decide +kernel) (by decide +kernel)
set_option maxRecDepth 20000 in
theorem gX7_tell_X7_firstRow : GoodIn wsX7_tell (wsV RX7 63 RX7 yX7_firstRow wsX7_firstRow) := goodIn_app (goodIn_of _ (by decide +kernel)) ggX7_tell_X7_firstRow
theorem dX7_tell_0 : decode cX7_tell 0 = .ok (.iload_n 2, 1) := by decide +kernel
theorem dX7_tell_1 : decode cX7_tell 1 = .ok (.ifCond .ne 11, 3) := by decide +kernel
theorem dX7_tell_4 : decode cX7_tell 4 = .ok (.aload_n 0, 1) := by decide +kernel
theorem dX7_tell_5 : decode cX7_tell 5 = .ok (.iload_n 1, 1) := by decide +kernel
theorem dX7_tell_6 : decode cX7_tell 6 = .ok (.invokevirtual 54, 3) := by decide +kernel
theorem dX7_tell_9 : decode cX7_tell 9 = .ok (.goto 34, 3) := by decide +kernel
theorem dX7_tell_12 : decode cX7_tell 12 = .ok (.iload_n 2, 1) := by decide +kernel
theorem dX7_tell_13 : decode cX7_tell 13 = .ok (.iconst 1, 1) := by decide +kernel
theorem dX7_tell_14 : decode cX7_tell 14 = .ok (.if_icmp .ne 11, 3) := by decide +kernel
theorem dX7_tell_17 : decode cX7_tell 17 = .ok (.aload_n 0, 1) := by decide +kernel
theorem dX7_tell_18 : decode cX7_tell 18 = .ok (.iload_n 1, 1) := by decide +kernel
theorem dX7_tell_19 : decode cX7_tell 19 = .ok (.invokevirtual 57, 3) := by decide +kernel
theorem dX7_tell_22 : decode cX7_tell 22 = .ok (.goto 21, 3) := by decide +kernel
theorem dX7_tell_25 : decode cX7_tell 25 = .ok (.iload_n 2, 1) := by decide +kernel
theorem dX7_tell_26 : decode cX7_tell 26 = .ok (.iconst 2, 1) := by decide +kernel
theorem dX7_tell_27 : decode cX7_tell 27 = .ok (.if_icmp .ne 11, 3) := by decide +kernel
theorem dX7_tell_30 : decode cX7_tell 30 = .ok (.aload_n 0, 1) := by decide +kernel
theorem dX7_tell_31 : decode cX7_tell 31 = .ok (.iload_n 1, 1) := by decide +kernel
theorem dX7_tell_32 : decode cX7_tell 32 = .ok (.invokevirtual 60, 3) := by decide +kernel
theorem dX7_tell_35 : decode cX7_tell 35 = .ok (.goto 8, 3) := by decide +kernel
theorem dX7_tell_38 : decode cX7_tell 38 = .ok (.aload_n 0, 1) := by decide +kernel
theorem dX7_tell_39 : decode cX7_tell 39 = .ok (.iload_n 1, 1) := by decide +kernel
theorem dX7_tell_40 : decode cX7_tell 40 = .ok (.invokevirtual 63, 3) := by decide +kernel
theorem dX7_tell_43 : decode cX7_tell 43 = .ok (.ireturn, 1) := by decide +kernel
theorem dX7_isKnown_0 : decode cX7_isKnown 0 = .ok (.aload_n 0, 1) := by decide +kernel
theorem dX7_isKnown_1 : decode cX7_isKnown 1 = .ok (.getfield 7, 3) := by decide +kernel
theorem dX7_isKnown_4 : decode cX7_isKnown 4 = .ok (.bipush 97, 2) := by decide +kernel
theorem dX7_isKnown_6 : decode cX7_isKnown 6 = .ok (.iload_n 1, 1) := by decide +kernel
theorem dX7_isKnown_7 : decode cX7_isKnown 7 = .ok (.iadd, 1) := by decide +kernel
theorem dX7_isKnown_8 : decode cX7_isKnown 8 = .ok (.iaload, 1) := by decide +kernel
theorem dX7_isKnown_9 : decode cX7_isKnown 9 = .ok (.ifCond .le 7, 3) := by decide +kernel
theorem dX7_isKnown_12 : decode cX7_isKnown 12 = .ok (.iconst 1, 1) := by decide +kernel
theorem dX7_isKnown_13 : decode cX7_isKnown 13 = .ok (.goto 4, 3) := by decide +kernel
theorem dX7_isKnown_16 : decode cX7_isKnown 16 = .ok (.iconst 0, 1) := by decide +kernel
theorem dX7_isKnown_17 : decode cX7_isKnown 17 = .ok (.ireturn, 1) := by decide +kernel
set_option maxRecDepth 20000 in
theorem ggX7_known_X7_isKnown : GoodIn wsX7_known wsX7_isKnown := goodIn_r _ [5, 6, 7, 8, 9, 10, 11, 12, 13, 14, 15, 16, 17, 18, 19, 20] (by decide +kernel) (by decide +kernel)
set_option maxRecDepth 20000 in
theorem gX7_known_X7_isKnown : GoodIn wsX7_known (wsV RX7 66 RX7 yX7_isKnown wsX7_isKnown) := goodIn_app (goodIn_of _ (by decide +kernel)) ggX7_known_X7_isKnown
theorem dX7_known_0 : decode cX7_known 0 = .ok (.iconst 0, 1) := by decide +kernel
theorem dX7_known_1 : decode cX7_known 1 = .ok (.istore_n 1, 1) := by decide +kernel
theorem dX7_known_2 : decode cX7_known 2 = .ok (.iconst 0, 1) := by decide +kernel
theorem dX7_known_3 : decode cX7_known 3 = .ok (.istore_n 2, 1) := by decide +kernel
theorem dX7_known_4 : decode cX7_known 4 = .ok (.iload_n 2, 1) := by decide +kernel
theorem dX7_known_5 : decode cX7_known 5 = .ok (.bipush 10, 2) := by decide +kernel
theorem dX7_known_7 : decode cX7_known 7 = .ok (.if_icmp .ge 25, 3) := by decide +kernel
theorem dX7_known_10 : decode cX7_known 10 = .ok (.iload_n 1, 1) := by decide +kernel
theorem dX7_known_11 : decode cX7_known 11 = .ok (.aload_n 0, 1) := by decide +kernel
theorem dX7_known_12 : decode cX7_known 12 = .ok (.iload_n 2, 1) := by decide +kernel
theorem dX7_known_13 : decode cX7_known 13 = .ok (.invokevirtual 66, 3) := by decide +kernel
theorem dX7_known_16 : decode cX7_known 16 = .ok (.ifCond .eq 7, 3) := by decide +kernel
theorem dX7_known_19 : decode cX7_known 19 = .ok (.iconst 1, 1) := by decide +kernel
theorem dX7_known_20 : decode cX7_known 20 = .ok (.goto 4, 3) := by decide +kernel
theorem dX7_known_23 : decode cX7_known 23 = .ok (.iconst 0, 1) := by decide +kernel
theorem dX7_known_24 : decode cX7_known 24 = .ok (.iadd, 1) := by decide +kernel
theorem dX7_known_25 : decode cX7_known 25 = .ok (.istore_n 1, 1) := by decide +kernel
theorem dX7_known_26 : decode cX7_known 26 = .ok (.iinc 2 1, 3) := by decide +kernel
theorem dX7_known_29 : decode cX7_known 29 = .ok (.goto (-25), 3) := by decide +kernel
theorem dX7_known_32 : decode cX7_known 32 = .ok (.iload_n 1, 1) := by decide +kernel
theorem dX7_known_33 : decode cX7_known 33 = .ok (.ireturn, 1) := by decide +kernel
set_option maxRecDepth 20000 in
theorem ggX7_weights_X7_isKnown : GoodIn wsX7_weights wsX7_isKnown := goodIn_r _ [5, 6, 30, 31, 32, 33, 34, 35, 36, 37, 38, 39, 40, 41, 42, 43] (by decide +kernel) (by decide +kernel)
set_option maxRecDepth 20000 in
theorem gX7_weights_X7_isKnown : GoodIn wsX7_weights (wsV RX7 66 RX7 yX7_isKnown wsX7_isKnown) := goodIn_app (goodIn_of _ (by decide +kernel)) ggX7_weights_X7_isKnown
set_option maxRecDepth 20000 in
theorem ggX7_weights_X7_weight : GoodIn wsX7_weights wsX7_weight := goodIn_r _ [10, 11, 12, 13, 4, 14, 6, 15, 16, 17, 18, 19, 20, 21, 22, 23, 24, 25, 26, 27, 28, 29, 30, 31, 32, 33, 34, 35, 36, 37, 38, 39, 40, 41, 42, 43] (by decide +kernel) (by decide +kernel)
set_option maxRecDepth 20000 in
theorem gX7_weights_X7_weight : GoodIn wsX7_weights (wsV RX7 57 RX7 yX7_weight wsX7_weight) := goodIn_app (goodIn_of _ (by decide +kernel)) ggX7_weights_X7_weight
theorem dX7_weights_0 : decode cX7_weights 0 = .ok (.iconst 0, 1) := by decide +kernel
theorem dX7_weights_1 : decode cX7_weights 1 = .ok (.istore_n 1, 1) := by decide +kernel
theorem dX7_weights_2 : decode cX7_weights 2 = .ok (.iconst 0, 1) := by decide +kernel
theorem dX7_weights_3 : decode cX7_weights 3 = .ok (.istore_n 2, 1) := by decide +kernel
theorem dX7_weights_4 : decode cX7_weights 4 = .ok (.iload_n 2, 1) := by decide +kernel
theorem dX7_weights_5 : decode cX7_weights 5 = .ok (.bipush 10, 2) := by decide +kernel
theorem dX7_weights_7 : decode cX7_weights 7 = .ok (.if_icmp .ge 29, 3) := by decide +kernel
theorem dX7_weights_10 : decode cX7_weights 10 = .ok (.iload_n 1, 1) := by decide +kernel
theorem dX7_weights_11 : decode cX7_weights 11 = .ok (.aload_n 0, 1) := by decide +kernel
theorem dX7_weights_12 : decode cX7_weights 12 = .ok (.iload_n 2, 1) := by decide +kernel
theorem dX7_weights_13 : decode cX7_weights 13 = .ok (.invokevirtual 66, 3) := by decide +kernel
theorem dX7_weights_16 : decode cX7_weights 16 = .ok (.ifCond .eq 11, 3) := by decide +kernel
theorem dX7_weights_19 : decode cX7_weights 19 = .ok (.aload_n 0, 1) := by decide +kernel
theorem dX7_weights_20 : decode cX7_weights 20 = .ok (.iload_n 2, 1) := by decide +kernel
theorem dX7_weights_21 : decode cX7_weights 21 = .ok (.invokevirtual 57, 3) := by decide +kernel
theorem dX7_weights_24 : decode cX7_weights 24 = .ok (.goto 4, 3) := by decide +kernel
theorem dX7_weights_27 : decode cX7_weights 27 = .ok (.iconst 0, 1) := by decide +kernel
theorem dX7_weights_28 : decode cX7_weights 28 = .ok (.iadd, 1) := by decide +kernel
theorem dX7_weights_29 : decode cX7_weights 29 = .ok (.istore_n 1, 1) := by decide +kernel
theorem dX7_weights_30 : decode cX7_weights 30 = .ok (.iinc 2 1, 3) := by decide +kernel
theorem dX7_weights_33 : decode cX7_weights 33 = .ok (.goto (-29), 3) := by decide +kernel
theorem dX7_weights_36 : decode cX7_weights 36 = .ok (.iload_n 1, 1) := by decide +kernel
theorem dX7_weights_37 : decode cX7_weights 37 = .ok (.ireturn, 1) := by decide +kernel
theorem dX7_isAhead_0 : decode cX7_isAhead 0 = .ok (.aload_n 0, 1) := by decide +kernel
theorem dX7_isAhead_1 : decode cX7_isAhead 1 = .ok (.getfield 7, 3) := by decide +kernel
theorem dX7_isAhead_4 : decode cX7_isAhead 4 = .ok (.iconst 1, 1) := by decide +kernel
theorem dX7_isAhead_5 : decode cX7_isAhead 5 = .ok (.iaload, 1) := by decide +kernel
theorem dX7_isAhead_6 : decode cX7_isAhead 6 = .ok (.iconst 2, 1) := by decide +kernel
theorem dX7_isAhead_7 : decode cX7_isAhead 7 = .ok (.if_icmp .ne 30, 3) := by decide +kernel
theorem dX7_isAhead_10 : decode cX7_isAhead 10 = .ok (.aload_n 0, 1) := by decide +kernel
theorem dX7_isAhead_11 : decode cX7_isAhead 11 = .ok (.getfield 7, 3) := by decide +kernel
theorem dX7_isAhead_14 : decode cX7_isAhead 14 = .ok (.bipush 117, 2) := by decide +kernel
theorem dX7_isAhead_16 : decode cX7_isAhead 16 = .ok (.iload_n 1, 1) := by decide +kernel
theorem dX7_isAhead_17 : decode cX7_isAhead 17 = .ok (.iadd, 1) := by decide +kernel
theorem dX7_isAhead_18 : decode cX7_isAhead 18 = .ok (.iaload, 1) := by decide +kernel
theorem dX7_isAhead_19 : decode cX7_isAhead 19 = .ok (.aload_n 0, 1) := by decide +kernel
theorem dX7_isAhead_20 : decode cX7_isAhead 20 = .ok (.getfield 7, 3) := by decide +kernel
theorem dX7_isAhead_23 : decode cX7_isAhead 23 = .ok (.bipush 117, 2) := by decide +kernel
theorem dX7_isAhead_25 : decode cX7_isAhead 25 = .ok (.iload_n 2, 1) := by decide +kernel
theorem dX7_isAhead_26 : decode cX7_isAhead 26 = .ok (.iadd, 1) := by decide +kernel
theorem dX7_isAhead_27 : decode cX7_isAhead 27 = .ok (.iaload, 1) := by decide +kernel
theorem dX7_isAhead_28 : decode cX7_isAhead 28 = .ok (.if_icmp .ge 7, 3) := by decide +kernel
theorem dX7_isAhead_31 : decode cX7_isAhead 31 = .ok (.iconst 1, 1) := by decide +kernel
theorem dX7_isAhead_32 : decode cX7_isAhead 32 = .ok (.goto 4, 3) := by decide +kernel
theorem dX7_isAhead_35 : decode cX7_isAhead 35 = .ok (.iconst 0, 1) := by decide +kernel
theorem dX7_isAhead_36 : decode cX7_isAhead 36 = .ok (.ireturn, 1) := by decide +kernel
theorem dX7_isAhead_37 : decode cX7_isAhead 37 = .ok (.aload_n 0, 1) := by decide +kernel
theorem dX7_isAhead_38 : decode cX7_isAhead 38 = .ok (.getfield 7, 3) := by decide +kernel
theorem dX7_isAhead_41 : decode cX7_isAhead 41 = .ok (.iconst 1, 1) := by decide +kernel
theorem dX7_isAhead_42 : decode cX7_isAhead 42 = .ok (.iaload, 1) := by decide +kernel
theorem dX7_isAhead_43 : decode cX7_isAhead 43 = .ok (.iconst 1, 1) := by decide +kernel
theorem dX7_isAhead_44 : decode cX7_isAhead 44 = .ok (.if_icmp .ne 25, 3) := by decide +kernel
theorem dX7_isAhead_47 : decode cX7_isAhead 47 = .ok (.aload_n 0, 1) := by decide +kernel
theorem dX7_isAhead_48 : decode cX7_isAhead 48 = .ok (.getfield 7, 3) := by decide +kernel
theorem dX7_isAhead_51 : decode cX7_isAhead 51 = .ok (.bipush 97, 2) := by decide +kernel
theorem dX7_isAhead_53 : decode cX7_isAhead 53 = .ok (.iload_n 1, 1) := by decide +kernel
theorem dX7_isAhead_54 : decode cX7_isAhead 54 = .ok (.iadd, 1) := by decide +kernel
theorem dX7_isAhead_55 : decode cX7_isAhead 55 = .ok (.iaload, 1) := by decide +kernel
theorem dX7_isAhead_56 : decode cX7_isAhead 56 = .ok (.aload_n 0, 1) := by decide +kernel
theorem dX7_isAhead_57 : decode cX7_isAhead 57 = .ok (.getfield 7, 3) := by decide +kernel
theorem dX7_isAhead_60 : decode cX7_isAhead 60 = .ok (.bipush 97, 2) := by decide +kernel
theorem dX7_isAhead_62 : decode cX7_isAhead 62 = .ok (.iload_n 2, 1) := by decide +kernel
theorem dX7_isAhead_63 : decode cX7_isAhead 63 = .ok (.iadd, 1) := by decide +kernel
theorem dX7_isAhead_64 : decode cX7_isAhead 64 = .ok (.iaload, 1) := by decide +kernel
theorem dX7_isAhead_65 : decode cX7_isAhead 65 = .ok (.isub, 1) := by decide +kernel
theorem dX7_isAhead_66 : decode cX7_isAhead 66 = .ok (.goto 4, 3) := by decide +kernel
theorem dX7_isAhead_69 : decode cX7_isAhead 69 = .ok (.iconst 0, 1) := by decide +kernel
theorem dX7_isAhead_70 : decode cX7_isAhead 70 = .ok (.istore_n 3, 1) := by decide +kernel
theorem dX7_isAhead_71 : decode cX7_isAhead 71 = .ok (.iload_n 3, 1) := by decide +kernel
theorem dX7_isAhead_72 : decode cX7_isAhead 72 = .ok (.ifCond .lt 28, 3) := by decide +kernel
theorem dX7_isAhead_75 : decode cX7_isAhead 75 = .ok (.iload_n 3, 1) := by decide +kernel
theorem dX7_isAhead_76 : decode cX7_isAhead 76 = .ok (.ifCond .ne 28, 3) := by decide +kernel
theorem dX7_isAhead_79 : decode cX7_isAhead 79 = .ok (.aload_n 0, 1) := by decide +kernel
theorem dX7_isAhead_80 : decode cX7_isAhead 80 = .ok (.getfield 7, 3) := by decide +kernel
theorem dX7_isAhead_83 : decode cX7_isAhead 83 = .ok (.bipush 107, 2) := by decide +kernel
theorem dX7_isAhead_85 : decode cX7_isAhead 85 = .ok (.iload_n 1, 1) := by decide +kernel
theorem dX7_isAhead_86 : decode cX7_isAhead 86 = .ok (.iadd, 1) := by decide +kernel
theorem dX7_isAhead_87 : decode cX7_isAhead 87 = .ok (.iaload, 1) := by decide +kernel
theorem dX7_isAhead_88 : decode cX7_isAhead 88 = .ok (.aload_n 0, 1) := by decide +kernel
theorem dX7_isAhead_89 : decode cX7_isAhead 89 = .ok (.getfield 7, 3) := by decide +kernel
theorem dX7_isAhead_92 : decode cX7_isAhead 92 = .ok (.bipush 107, 2) := by decide +kernel
theorem dX7_isAhead_94 : decode cX7_isAhead 94 = .ok (.iload_n 2, 1) := by decide +kernel
theorem dX7_isAhead_95 : decode cX7_isAhead 95 = .ok (.iadd, 1) := by decide +kernel
theorem dX7_isAhead_96 : decode cX7_isAhead 96 = .ok (.iaload, 1) := by decide +kernel
theorem dX7_isAhead_97 : decode cX7_isAhead 97 = .ok (.if_icmp .ge 7, 3) := by decide +kernel
theorem dX7_isAhead_100 : decode cX7_isAhead 100 = .ok (.iconst 1, 1) := by decide +kernel
theorem dX7_isAhead_101 : decode cX7_isAhead 101 = .ok (.goto 4, 3) := by decide +kernel
theorem dX7_isAhead_104 : decode cX7_isAhead 104 = .ok (.iconst 0, 1) := by decide +kernel
theorem dX7_isAhead_105 : decode cX7_isAhead 105 = .ok (.ireturn, 1) := by decide +kernel
set_option maxRecDepth 20000 in
theorem ggX7_orderOf_X7_isKnown : GoodIn wsX7_orderOf wsX7_isKnown := goodIn_r _ [5, 6, 11, 12, 13, 14, 15, 16, 17, 18, 19, 20, 21, 22, 23, 24] (by decide +kernel) (by decide +kernel)
set_option maxRecDepth 20000 in
theorem gX7_orderOf_X7_isKnown : GoodIn wsX7_orderOf (wsV RX7 66 RX7 yX7_isKnown wsX7_isKnown) := goodIn_app (goodIn_of _ (by decide +kernel)) ggX7_orderOf_X7_isKnown
set_option maxRecDepth 20000 in
theorem ggX7_orderOf_X7_isAhead : GoodIn wsX7_orderOf wsX7_isAhead := goodIn_r _ [10, 6, 11, 12, 13, 14, 15, 16, 17, 18, 19, 20, 21, 22, 23, 24] (by decide +kernel) (by decide +kernel)
set_option maxRecDepth 20000 in
theorem gX7_orderOf_X7_isAhead : GoodIn wsX7_orderOf (wsV RX7 70 RX7 yX7_isAhead wsX7_isAhead) := goodIn_app (goodIn_of _ (by decide +kernel)) ggX7_orderOf_X7_isAhead
theorem dX7_orderOf_0 : decode cX7_orderOf 0 = .ok (.iconst 0, 1) := by decide +kernel
theorem dX7_orderOf_1 : decode cX7_orderOf 1 = .ok (.istore_n 2, 1) := by decide +kernel
theorem dX7_orderOf_2 : decode cX7_orderOf 2 = .ok (.iconst 0, 1) := by decide +kernel
theorem dX7_orderOf_3 : decode cX7_orderOf 3 = .ok (.istore_n 3, 1) := by decide +kernel
theorem dX7_orderOf_4 : decode cX7_orderOf 4 = .ok (.iload_n 3, 1) := by decide +kernel
theorem dX7_orderOf_5 : decode cX7_orderOf 5 = .ok (.bipush 10, 2) := by decide +kernel
theorem dX7_orderOf_7 : decode cX7_orderOf 7 = .ok (.if_icmp .ge 34, 3) := by decide +kernel
theorem dX7_orderOf_10 : decode cX7_orderOf 10 = .ok (.iload_n 2, 1) := by decide +kernel
theorem dX7_orderOf_11 : decode cX7_orderOf 11 = .ok (.aload_n 0, 1) := by decide +kernel
theorem dX7_orderOf_12 : decode cX7_orderOf 12 = .ok (.iload_n 3, 1) := by decide +kernel
theorem dX7_orderOf_13 : decode cX7_orderOf 13 = .ok (.invokevirtual 66, 3) := by decide +kernel
theorem dX7_orderOf_16 : decode cX7_orderOf 16 = .ok (.ifCond .eq 16, 3) := by decide +kernel
theorem dX7_orderOf_19 : decode cX7_orderOf 19 = .ok (.aload_n 0, 1) := by decide +kernel
theorem dX7_orderOf_20 : decode cX7_orderOf 20 = .ok (.iload_n 3, 1) := by decide +kernel
theorem dX7_orderOf_21 : decode cX7_orderOf 21 = .ok (.iload_n 1, 1) := by decide +kernel
theorem dX7_orderOf_22 : decode cX7_orderOf 22 = .ok (.invokevirtual 70, 3) := by decide +kernel
theorem dX7_orderOf_25 : decode cX7_orderOf 25 = .ok (.ifCond .eq 7, 3) := by decide +kernel
theorem dX7_orderOf_28 : decode cX7_orderOf 28 = .ok (.iconst 1, 1) := by decide +kernel
theorem dX7_orderOf_29 : decode cX7_orderOf 29 = .ok (.goto 4, 3) := by decide +kernel
theorem dX7_orderOf_32 : decode cX7_orderOf 32 = .ok (.iconst 0, 1) := by decide +kernel
theorem dX7_orderOf_33 : decode cX7_orderOf 33 = .ok (.iadd, 1) := by decide +kernel
theorem dX7_orderOf_34 : decode cX7_orderOf 34 = .ok (.istore_n 2, 1) := by decide +kernel
theorem dX7_orderOf_35 : decode cX7_orderOf 35 = .ok (.iinc 3 1, 3) := by decide +kernel
theorem dX7_orderOf_38 : decode cX7_orderOf 38 = .ok (.goto (-34), 3) := by decide +kernel
theorem dX7_orderOf_41 : decode cX7_orderOf 41 = .ok (.iload_n 2, 1) := by decide +kernel
theorem dX7_orderOf_42 : decode cX7_orderOf 42 = .ok (.ireturn, 1) := by decide +kernel
set_option maxRecDepth 20000 in
theorem ggX7_first_X7_isKnown : GoodIn wsX7_first wsX7_isKnown := goodIn_r _ [5, 6, 11, 12, 13, 14, 15, 16, 17, 18, 19, 20, 21, 22, 23, 24] (by decide +kernel) (by decide +kernel)
set_option maxRecDepth 20000 in
theorem gX7_first_X7_isKnown : GoodIn wsX7_first (wsV RX7 66 RX7 yX7_isKnown wsX7_isKnown) := goodIn_app (goodIn_of _ (by decide +kernel)) ggX7_first_X7_isKnown
set_option maxRecDepth 20000 in
theorem ggX7_first_X7_isAhead : GoodIn wsX7_first wsX7_isAhead := goodIn_r _ [10, 6, 11, 12, 13, 14, 15, 16, 17, 18, 19, 20, 21, 22, 23, 24] (by decide +kernel) (by decide +kernel)
set_option maxRecDepth 20000 in
theorem gX7_first_X7_isAhead : GoodIn wsX7_first (wsV RX7 70 RX7 yX7_isAhead wsX7_isAhead) := goodIn_app (goodIn_of _ (by decide +kernel)) ggX7_first_X7_isAhead
theorem dX7_first_0 : decode cX7_first 0 = .ok (.bipush (-4), 2) := by decide +kernel
theorem dX7_first_2 : decode cX7_first 2 = .ok (.istore_n 2, 1) := by decide +kernel
theorem dX7_first_3 : decode cX7_first 3 = .ok (.iconst 0, 1) := by decide +kernel
theorem dX7_first_4 : decode cX7_first 4 = .ok (.istore_n 3, 1) := by decide +kernel
theorem dX7_first_5 : decode cX7_first 5 = .ok (.iload_n 3, 1) := by decide +kernel
theorem dX7_first_6 : decode cX7_first 6 = .ok (.bipush 10, 2) := by decide +kernel
theorem dX7_first_8 : decode cX7_first 8 = .ok (.if_icmp .ge 41, 3) := by decide +kernel
theorem dX7_first_11 : decode cX7_first 11 = .ok (.iload_n 3, 1) := by decide +kernel
theorem dX7_first_12 : decode cX7_first 12 = .ok (.iload_n 1, 1) := by decide +kernel
theorem dX7_first_13 : decode cX7_first 13 = .ok (.if_icmp .eq 28, 3) := by decide +kernel
theorem dX7_first_16 : decode cX7_first 16 = .ok (.aload_n 0, 1) := by decide +kernel
theorem dX7_first_17 : decode cX7_first 17 = .ok (.iload_n 3, 1) := by decide +kernel
theorem dX7_first_18 : decode cX7_first 18 = .ok (.invokevirtual 66, 3) := by decide +kernel
theorem dX7_first_21 : decode cX7_first 21 = .ok (.ifCond .eq 20, 3) := by decide +kernel
theorem dX7_first_24 : decode cX7_first 24 = .ok (.iload_n 2, 1) := by decide +kernel
theorem dX7_first_25 : decode cX7_first 25 = .ok (.ifCond .lt 12, 3) := by decide +kernel
theorem dX7_first_28 : decode cX7_first 28 = .ok (.aload_n 0, 1) := by decide +kernel
theorem dX7_first_29 : decode cX7_first 29 = .ok (.iload_n 3, 1) := by decide +kernel
theorem dX7_first_30 : decode cX7_first 30 = .ok (.iload_n 2, 1) := by decide +kernel
theorem dX7_first_31 : decode cX7_first 31 = .ok (.invokevirtual 70, 3) := by decide +kernel
theorem dX7_first_34 : decode cX7_first 34 = .ok (.ifCond .eq 7, 3) := by decide +kernel
theorem dX7_first_37 : decode cX7_first 37 = .ok (.iload_n 3, 1) := by decide +kernel
theorem dX7_first_38 : decode cX7_first 38 = .ok (.goto 4, 3) := by decide +kernel
theorem dX7_first_41 : decode cX7_first 41 = .ok (.iload_n 2, 1) := by decide +kernel
theorem dX7_first_42 : decode cX7_first 42 = .ok (.istore_n 2, 1) := by decide +kernel
theorem dX7_first_43 : decode cX7_first 43 = .ok (.iinc 3 1, 3) := by decide +kernel
theorem dX7_first_46 : decode cX7_first 46 = .ok (.goto (-41), 3) := by decide +kernel
theorem dX7_first_49 : decode cX7_first 49 = .ok (.iload_n 2, 1) := by decide +kernel
theorem dX7_first_50 : decode cX7_first 50 = .ok (.ireturn, 1) := by decide +kernel
set_option maxRecDepth 20000 in
theorem ggX7_makesRoom_X7_first : GoodIn wsX7_makesRoom wsX7_first := goodIn_r _ [6, 7, 8, 9, 5, 10, 1, 11, 12, 13, 14, 42, 43, 44, 45, 46, 47, 48, 49, 50, 51, 52, 53, 54, 55] (by decide +kernel) (by decide +kernel)
set_option maxRecDepth 20000 in
theorem gX7_makesRoom_X7_first : GoodIn wsX7_makesRoom (wsV RX7 73 RX7 yX7_first wsX7_first) := goodIn_app (goodIn_of _ (by decide +kernel)) ggX7_makesRoom_X7_first
set_option maxRecDepth 20000 in
theorem ggX7_makesRoom_X7_weights : GoodIn wsX7_makesRoom wsX7_weights := goodIn_r _ [18, 7, 8, 9, 5, 10, 1, 19, 20, 21, 22, 23, 24, 25, 26, 27, 28, 29, 30, 31, 32, 33, 34, 35, 36, 37, 38, 39, 40, 41, 42, 43, 44, 45, 46, 47, 48, 49, 50, 51, 52, 53, 54, 55] (by decide +kernel) (by decide +kernel)
set_option maxRecDepth 20000 in
theorem gX7_makesRoom_X7_weights : GoodIn wsX7_makesRoom (wsV RX7 76 RX7 yX7_weights wsX7_weights) := goodIn_app (goodIn_of _ (by decide +kernel)) ggX7_makesRoom_X7_weights
theorem dX7_makesRoom_0 : decode cX7_makesRoom 0 = .ok (.iconst 0, 1) := by decide +kernel
theorem dX7_makesRoom_1 : decode cX7_makesRoom 1 = .ok (.istore_n 2, 1) := by decide +kernel
theorem dX7_makesRoom_2 : decode cX7_makesRoom 2 = .ok (.aload_n 0, 1) := by decide +kernel
theorem dX7_makesRoom_3 : decode cX7_makesRoom 3 = .ok (.iload_n 1, 1) := by decide +kernel
theorem dX7_makesRoom_4 : decode cX7_makesRoom 4 = .ok (.invokevirtual 73, 3) := by decide +kernel
theorem dX7_makesRoom_7 : decode cX7_makesRoom 7 = .ok (.istore_n 3, 1) := by decide +kernel
theorem dX7_makesRoom_8 : decode cX7_makesRoom 8 = .ok (.iload_n 3, 1) := by decide +kernel
theorem dX7_makesRoom_9 : decode cX7_makesRoom 9 = .ok (.ifCond .lt 38, 3) := by decide +kernel
theorem dX7_makesRoom_12 : decode cX7_makesRoom 12 = .ok (.aload_n 0, 1) := by decide +kernel
theorem dX7_makesRoom_13 : decode cX7_makesRoom 13 = .ok (.invokevirtual 76, 3) := by decide +kernel
theorem dX7_makesRoom_16 : decode cX7_makesRoom 16 = .ok (.aload_n 0, 1) := by decide +kernel
theorem dX7_makesRoom_17 : decode cX7_makesRoom 17 = .ok (.getfield 7, 3) := by decide +kernel
theorem dX7_makesRoom_20 : decode cX7_makesRoom 20 = .ok (.iconst 0, 1) := by decide +kernel
theorem dX7_makesRoom_21 : decode cX7_makesRoom 21 = .ok (.iaload, 1) := by decide +kernel
theorem dX7_makesRoom_22 : decode cX7_makesRoom 22 = .ok (.if_icmp .le 25, 3) := by decide +kernel
theorem dX7_makesRoom_25 : decode cX7_makesRoom 25 = .ok (.aload_n 0, 1) := by decide +kernel
theorem dX7_makesRoom_26 : decode cX7_makesRoom 26 = .ok (.getfield 7, 3) := by decide +kernel
theorem dX7_makesRoom_29 : decode cX7_makesRoom 29 = .ok (.bipush 97, 2) := by decide +kernel
theorem dX7_makesRoom_31 : decode cX7_makesRoom 31 = .ok (.iload_n 3, 1) := by decide +kernel
theorem dX7_makesRoom_32 : decode cX7_makesRoom 32 = .ok (.iadd, 1) := by decide +kernel
theorem dX7_makesRoom_33 : decode cX7_makesRoom 33 = .ok (.iconst 0, 1) := by decide +kernel
theorem dX7_makesRoom_34 : decode cX7_makesRoom 34 = .ok (.iastore, 1) := by decide +kernel
theorem dX7_makesRoom_35 : decode cX7_makesRoom 35 = .ok (.iinc 2 1, 3) := by decide +kernel
theorem dX7_makesRoom_38 : decode cX7_makesRoom 38 = .ok (.aload_n 0, 1) := by decide +kernel
theorem dX7_makesRoom_39 : decode cX7_makesRoom 39 = .ok (.iload_n 1, 1) := by decide +kernel
theorem dX7_makesRoom_40 : decode cX7_makesRoom 40 = .ok (.invokevirtual 73, 3) := by decide +kernel
theorem dX7_makesRoom_43 : decode cX7_makesRoom 43 = .ok (.istore_n 3, 1) := by decide +kernel
theorem dX7_makesRoom_44 : decode cX7_makesRoom 44 = .ok (.goto (-36), 3) := by decide +kernel
theorem dX7_makesRoom_47 : decode cX7_makesRoom 47 = .ok (.aload_n 0, 1) := by decide +kernel
theorem dX7_makesRoom_48 : decode cX7_makesRoom 48 = .ok (.getfield 7, 3) := by decide +kernel
theorem dX7_makesRoom_51 : decode cX7_makesRoom 51 = .ok (.bipush 12, 2) := by decide +kernel
theorem dX7_makesRoom_53 : decode cX7_makesRoom 53 = .ok (.dup2, 1) := by decide +kernel
theorem dX7_makesRoom_54 : decode cX7_makesRoom 54 = .ok (.iaload, 1) := by decide +kernel
theorem dX7_makesRoom_55 : decode cX7_makesRoom 55 = .ok (.iload_n 2, 1) := by decide +kernel
theorem dX7_makesRoom_56 : decode cX7_makesRoom 56 = .ok (.iadd, 1) := by decide +kernel
theorem dX7_makesRoom_57 : decode cX7_makesRoom 57 = .ok (.iastore, 1) := by decide +kernel
theorem dX7_makesRoom_58 : decode cX7_makesRoom 58 = .ok (.iload_n 2, 1) := by decide +kernel
theorem dX7_makesRoom_59 : decode cX7_makesRoom 59 = .ok (.ireturn, 1) := by decide +kernel
set_option maxRecDepth 20000 in
theorem ggX7_throwsOut_X7_isKnown : GoodIn wsX7_throwsOut wsX7_isKnown := goodIn_r _ [6, 1, 7, 8, 9, 10, 11, 12, 13, 14, 15, 16, 17, 18, 19, 20] (by decide +kernel) (by decide +kernel)
set_option maxRecDepth 20000 in
theorem gX7_throwsOut_X7_isKnown : GoodIn wsX7_throwsOut (wsV RX7 66 RX7 yX7_isKnown wsX7_isKnown) := goodIn_app (goodIn_of _ (by decide +kernel)) ggX7_throwsOut_X7_isKnown
theorem dX7_throwsOut_0 : decode cX7_throwsOut 0 = .ok (.aload_n 0, 1) := by decide +kernel
theorem dX7_throwsOut_1 : decode cX7_throwsOut 1 = .ok (.iload_n 1, 1) := by decide +kernel
theorem dX7_throwsOut_2 : decode cX7_throwsOut 2 = .ok (.invokevirtual 66, 3) := by decide +kernel
theorem dX7_throwsOut_5 : decode cX7_throwsOut 5 = .ok (.ifCond .ne 5, 3) := by decide +kernel
theorem dX7_throwsOut_8 : decode cX7_throwsOut 8 = .ok (.iconst 0, 1) := by decide +kernel
theorem dX7_throwsOut_9 : decode cX7_throwsOut 9 = .ok (.ireturn, 1) := by decide +kernel
theorem dX7_throwsOut_10 : decode cX7_throwsOut 10 = .ok (.aload_n 0, 1) := by decide +kernel
theorem dX7_throwsOut_11 : decode cX7_throwsOut 11 = .ok (.getfield 7, 3) := by decide +kernel
theorem dX7_throwsOut_14 : decode cX7_throwsOut 14 = .ok (.bipush 97, 2) := by decide +kernel
theorem dX7_throwsOut_16 : decode cX7_throwsOut 16 = .ok (.iload_n 1, 1) := by decide +kernel
theorem dX7_throwsOut_17 : decode cX7_throwsOut 17 = .ok (.iadd, 1) := by decide +kernel
theorem dX7_throwsOut_18 : decode cX7_throwsOut 18 = .ok (.iconst 0, 1) := by decide +kernel
theorem dX7_throwsOut_19 : decode cX7_throwsOut 19 = .ok (.iastore, 1) := by decide +kernel
theorem dX7_throwsOut_20 : decode cX7_throwsOut 20 = .ok (.aload_n 0, 1) := by decide +kernel
theorem dX7_throwsOut_21 : decode cX7_throwsOut 21 = .ok (.getfield 7, 3) := by decide +kernel
theorem dX7_throwsOut_24 : decode cX7_throwsOut 24 = .ok (.bipush 13, 2) := by decide +kernel
theorem dX7_throwsOut_26 : decode cX7_throwsOut 26 = .ok (.dup2, 1) := by decide +kernel
theorem dX7_throwsOut_27 : decode cX7_throwsOut 27 = .ok (.iaload, 1) := by decide +kernel
theorem dX7_throwsOut_28 : decode cX7_throwsOut 28 = .ok (.iconst 1, 1) := by decide +kernel
theorem dX7_throwsOut_29 : decode cX7_throwsOut 29 = .ok (.iadd, 1) := by decide +kernel
theorem dX7_throwsOut_30 : decode cX7_throwsOut 30 = .ok (.iastore, 1) := by decide +kernel
theorem dX7_throwsOut_31 : decode cX7_throwsOut 31 = .ok (.iconst 1, 1) := by decide +kernel
theorem dX7_throwsOut_32 : decode cX7_throwsOut 32 = .ok (.ireturn, 1) := by decide +kernel
set_option maxRecDepth 20000 in
theorem ggX7_throwsAll_X7_throwsOut : GoodIn wsX7_throwsAll wsX7_throwsOut := goodIn_r _ [5, 6, 7, 8, 9, 4, 10, 11, 12, 13, 14, 15, 16, 17, 18, 19, 20, 21, 22, 23, 24] (by decide +kernel) (by decide +kernel)
set_option maxRecDepth 20000 in
theorem gX7_throwsAll_X7_throwsOut : GoodIn wsX7_throwsAll (wsV RX7 80 RX7 yX7_throwsOut wsX7_throwsOut) := goodIn_app (goodIn_of _ (by decide +kernel)) ggX7_throwsAll_X7_throwsOut
theorem dX7_throwsAll_0 : decode cX7_throwsAll 0 = .ok (.iconst 0, 1) := by decide +kernel
theorem dX7_throwsAll_1 : decode cX7_throwsAll 1 = .ok (.istore_n 1, 1) := by decide +kernel
theorem dX7_throwsAll_2 : decode cX7_throwsAll 2 = .ok (.iconst 0, 1) := by decide +kernel
theorem dX7_throwsAll_3 : decode cX7_throwsAll 3 = .ok (.istore_n 2, 1) := by decide +kernel
theorem dX7_throwsAll_4 : decode cX7_throwsAll 4 = .ok (.iload_n 2, 1) := by decide +kernel
theorem dX7_throwsAll_5 : decode cX7_throwsAll 5 = .ok (.bipush 10, 2) := by decide +kernel
theorem dX7_throwsAll_7 : decode cX7_throwsAll 7 = .ok (.if_icmp .ge 17, 3) := by decide +kernel
theorem dX7_throwsAll_10 : decode cX7_throwsAll 10 = .ok (.iload_n 1, 1) := by decide +kernel
theorem dX7_throwsAll_11 : decode cX7_throwsAll 11 = .ok (.aload_n 0, 1) := by decide +kernel
theorem dX7_throwsAll_12 : decode cX7_throwsAll 12 = .ok (.iload_n 2, 1) := by decide +kernel
theorem dX7_throwsAll_13 : decode cX7_throwsAll 13 = .ok (.invokevirtual 80, 3) := by decide +kernel
theorem dX7_throwsAll_16 : decode cX7_throwsAll 16 = .ok (.iadd, 1) := by decide +kernel
theorem dX7_throwsAll_17 : decode cX7_throwsAll 17 = .ok (.istore_n 1, 1) := by decide +kernel
theorem dX7_throwsAll_18 : decode cX7_throwsAll 18 = .ok (.iinc 2 1, 3) := by decide +kernel
theorem dX7_throwsAll_21 : decode cX7_throwsAll 21 = .ok (.goto (-17), 3) := by decide +kernel
theorem dX7_throwsAll_24 : decode cX7_throwsAll 24 = .ok (.iload_n 1, 1) := by decide +kernel
theorem dX7_throwsAll_25 : decode cX7_throwsAll 25 = .ok (.ireturn, 1) := by decide +kernel
set_option maxRecDepth 20000 in
theorem ggX7_keeps_X7_throwsAll : GoodIn wsX7_keeps wsX7_throwsAll := goodIn_r _ [6, 7, 8, 9, 5, 10, 1, 11, 12, 13, 14, 15, 16, 17, 18, 19, 20, 21, 22, 23, 24, 25, 26, 27, 28] (by decide +kernel) (by decide +kernel)
set_option maxRecDepth 20000 in
theorem gX7_keeps_X7_throwsAll : GoodIn wsX7_keeps (wsV RX7 83 RX7 yX7_throwsAll wsX7_throwsAll) := goodIn_app (goodIn_of _ (by decide +kernel)) ggX7_keeps_X7_throwsAll
set_option maxRecDepth 20000 in
theorem ggX7_keeps_X7_isKnown : GoodIn wsX7_keeps wsX7_isKnown := goodIn_r _ [14, 1, 15, 16, 17, 18, 19, 20, 21, 22, 23, 24, 25, 26, 27, 28] (by decide +kernel) (by decide +kernel)
set_option maxRecDepth 20000 in
theorem gX7_keeps_X7_isKnown : GoodIn wsX7_keeps (wsV RX7 66 RX7 yX7_isKnown wsX7_isKnown) := goodIn_app (goodIn_of _ (by decide +kernel)) ggX7_keeps_X7_isKnown
set_option maxRecDepth 20000 in
theorem ggX7_keeps_X7_throwsOut : GoodIn wsX7_keeps wsX7_throwsOut := goodIn_r _ [10, 1, 11, 12, 13, 5, 14, 15, 16, 17, 18, 19, 20, 21, 22, 23, 24, 25, 26, 27, 28] (by decide +kernel) (by decide +kernel)
set_option maxRecDepth 20000 in
theorem gX7_keeps_X7_throwsOut : GoodIn wsX7_keeps (wsV RX7 80 RX7 yX7_throwsOut wsX7_throwsOut) := goodIn_app (goodIn_of _ (by decide +kernel)) ggX7_keeps_X7_throwsOut
theorem dX7_keeps_0 : decode cX7_keeps 0 = .ok (.iconst 0, 1) := by decide +kernel
theorem dX7_keeps_1 : decode cX7_keeps 1 = .ok (.istore_n 3, 1) := by decide +kernel
theorem dX7_keeps_2 : decode cX7_keeps 2 = .ok (.aload_n 0, 1) := by decide +kernel
theorem dX7_keeps_3 : decode cX7_keeps 3 = .ok (.getfield 7, 3) := by decide +kernel
theorem dX7_keeps_6 : decode cX7_keeps 6 = .ok (.iconst 2, 1) := by decide +kernel
theorem dX7_keeps_7 : decode cX7_keeps 7 = .ok (.iaload, 1) := by decide +kernel
theorem dX7_keeps_8 : decode cX7_keeps 8 = .ok (.iconst 1, 1) := by decide +kernel
theorem dX7_keeps_9 : decode cX7_keeps 9 = .ok (.if_icmp .ne 8, 3) := by decide +kernel
theorem dX7_keeps_12 : decode cX7_keeps 12 = .ok (.aload_n 0, 1) := by decide +kernel
theorem dX7_keeps_13 : decode cX7_keeps 13 = .ok (.invokevirtual 83, 3) := by decide +kernel
theorem dX7_keeps_16 : decode cX7_keeps 16 = .ok (.istore_n 3, 1) := by decide +kernel
theorem dX7_keeps_17 : decode cX7_keeps 17 = .ok (.iconst 0, 1) := by decide +kernel
theorem dX7_keeps_18 : decode cX7_keeps 18 = .ok (.istore 4, 2) := by decide +kernel
theorem dX7_keeps_20 : decode cX7_keeps 20 = .ok (.iload 4, 2) := by decide +kernel
theorem dX7_keeps_22 : decode cX7_keeps 22 = .ok (.bipush 10, 2) := by decide +kernel
theorem dX7_keeps_24 : decode cX7_keeps 24 = .ok (.if_icmp .ge 81, 3) := by decide +kernel
theorem dX7_keeps_27 : decode cX7_keeps 27 = .ok (.iload_n 3, 1) := by decide +kernel
theorem dX7_keeps_28 : decode cX7_keeps 28 = .ok (.ifCond .lt 77, 3) := by decide +kernel
theorem dX7_keeps_31 : decode cX7_keeps 31 = .ok (.iload 4, 2) := by decide +kernel
theorem dX7_keeps_33 : decode cX7_keeps 33 = .ok (.iload_n 1, 1) := by decide +kernel
theorem dX7_keeps_34 : decode cX7_keeps 34 = .ok (.if_icmp .eq 9, 3) := by decide +kernel
theorem dX7_keeps_37 : decode cX7_keeps 37 = .ok (.iload 4, 2) := by decide +kernel
theorem dX7_keeps_39 : decode cX7_keeps 39 = .ok (.iload_n 2, 1) := by decide +kernel
theorem dX7_keeps_40 : decode cX7_keeps 40 = .ok (.if_icmp .ne 59, 3) := by decide +kernel
theorem dX7_keeps_43 : decode cX7_keeps 43 = .ok (.aload_n 0, 1) := by decide +kernel
theorem dX7_keeps_44 : decode cX7_keeps 44 = .ok (.getfield 7, 3) := by decide +kernel
theorem dX7_keeps_47 : decode cX7_keeps 47 = .ok (.bipush 15, 2) := by decide +kernel
theorem dX7_keeps_49 : decode cX7_keeps 49 = .ok (.dup2, 1) := by decide +kernel
theorem dX7_keeps_50 : decode cX7_keeps 50 = .ok (.iaload, 1) := by decide +kernel
theorem dX7_keeps_51 : decode cX7_keeps 51 = .ok (.aload_n 0, 1) := by decide +kernel
theorem dX7_keeps_52 : decode cX7_keeps 52 = .ok (.getfield 7, 3) := by decide +kernel
theorem dX7_keeps_55 : decode cX7_keeps 55 = .ok (.iconst 2, 1) := by decide +kernel
theorem dX7_keeps_56 : decode cX7_keeps 56 = .ok (.iaload, 1) := by decide +kernel
theorem dX7_keeps_57 : decode cX7_keeps 57 = .ok (.iconst 2, 1) := by decide +kernel
theorem dX7_keeps_58 : decode cX7_keeps 58 = .ok (.if_icmp .ne 16, 3) := by decide +kernel
theorem dX7_keeps_61 : decode cX7_keeps 61 = .ok (.aload_n 0, 1) := by decide +kernel
theorem dX7_keeps_62 : decode cX7_keeps 62 = .ok (.iload 4, 2) := by decide +kernel
theorem dX7_keeps_64 : decode cX7_keeps 64 = .ok (.invokevirtual 66, 3) := by decide +kernel
theorem dX7_keeps_67 : decode cX7_keeps 67 = .ok (.ifCond .eq 7, 3) := by decide +kernel
theorem dX7_keeps_70 : decode cX7_keeps 70 = .ok (.iconst 1, 1) := by decide +kernel
theorem dX7_keeps_71 : decode cX7_keeps 71 = .ok (.goto 4, 3) := by decide +kernel
theorem dX7_keeps_74 : decode cX7_keeps 74 = .ok (.iconst 0, 1) := by decide +kernel
theorem dX7_keeps_75 : decode cX7_keeps 75 = .ok (.iadd, 1) := by decide +kernel
theorem dX7_keeps_76 : decode cX7_keeps 76 = .ok (.iastore, 1) := by decide +kernel
theorem dX7_keeps_77 : decode cX7_keeps 77 = .ok (.iload_n 3, 1) := by decide +kernel
theorem dX7_keeps_78 : decode cX7_keeps 78 = .ok (.aload_n 0, 1) := by decide +kernel
theorem dX7_keeps_79 : decode cX7_keeps 79 = .ok (.getfield 7, 3) := by decide +kernel
theorem dX7_keeps_82 : decode cX7_keeps 82 = .ok (.iconst 2, 1) := by decide +kernel
theorem dX7_keeps_83 : decode cX7_keeps 83 = .ok (.iaload, 1) := by decide +kernel
theorem dX7_keeps_84 : decode cX7_keeps 84 = .ok (.ifCond .ne 12, 3) := by decide +kernel
theorem dX7_keeps_87 : decode cX7_keeps 87 = .ok (.aload_n 0, 1) := by decide +kernel
theorem dX7_keeps_88 : decode cX7_keeps 88 = .ok (.iload 4, 2) := by decide +kernel
theorem dX7_keeps_90 : decode cX7_keeps 90 = .ok (.invokevirtual 80, 3) := by decide +kernel
theorem dX7_keeps_93 : decode cX7_keeps 93 = .ok (.goto 4, 3) := by decide +kernel
theorem dX7_keeps_96 : decode cX7_keeps 96 = .ok (.iconst 0, 1) := by decide +kernel
theorem dX7_keeps_97 : decode cX7_keeps 97 = .ok (.iadd, 1) := by decide +kernel
theorem dX7_keeps_98 : decode cX7_keeps 98 = .ok (.istore_n 3, 1) := by decide +kernel
theorem dX7_keeps_99 : decode cX7_keeps 99 = .ok (.iinc 4 1, 3) := by decide +kernel
theorem dX7_keeps_102 : decode cX7_keeps 102 = .ok (.goto (-82), 3) := by decide +kernel
theorem dX7_keeps_105 : decode cX7_keeps 105 = .ok (.return_, 1) := by decide +kernel
set_option maxRecDepth 20000 in
theorem ggX7_looks_X7_isKnown : GoodIn wsX7_looks wsX7_isKnown := goodIn_r _ [6, 1, 46, 47, 48, 49, 50, 51, 52, 53, 54, 55, 56, 57, 58, 59] (by decide +kernel) (by decide +kernel)
set_option maxRecDepth 20000 in
theorem gX7_looks_X7_isKnown : GoodIn wsX7_looks (wsV RX7 66 RX7 yX7_isKnown wsX7_isKnown) := goodIn_app (goodIn_of _ (by decide +kernel)) ggX7_looks_X7_isKnown
set_option maxRecDepth 20000 in
theorem ggX7_looks_X7_weight : GoodIn wsX7_looks wsX7_weight := goodIn_r _ [10, 11, 12, 13, 5, 14, 1, 15, 16, 17, 18, 19, 20, 21, 22, 23, 24, 25, 26, 27, 28, 29, 46, 47, 48, 49, 50, 51, 52, 53, 54, 55, 56, 57, 58, 59] (by decide +kernel) (by decide +kernel)
set_option maxRecDepth 20000 in
theorem gX7_looks_X7_weight : GoodIn wsX7_looks (wsV RX7 57 RX7 yX7_weight wsX7_weight) := goodIn_app (goodIn_of _ (by decide +kernel)) ggX7_looks_X7_weight
set_option maxRecDepth 20000 in
theorem ggX7_looks_X7_makesRoom : GoodIn wsX7_looks wsX7_makesRoom := goodIn_r _ [33, 1, 34, 35, 36, 5, 37, 2, 3, 4, 6, 38, 39, 40, 41, 42, 43, 44, 45, 7, 8, 9, 10, 11, 12, 13, 14, 15, 16, 17, 18, 19, 20, 21, 22, 23, 24, 25, 26, 27, 28, 29, 46, 47, 48, 49, 50, 51, 52, 53, 54, 55, 56, 57, 58, 59] (by decide +kernel) (by decide +kernel)
set_option maxRecDepth 20000 in
theorem gX7_looks_X7_makesRoom : GoodIn wsX7_looks (wsV RX7 86 RX7 yX7_makesRoom wsX7_makesRoom) := goodIn_app (goodIn_of _ (by decide +kernel)) ggX7_looks_X7_makesRoom
theorem dX7_looks_0 : decode cX7_looks 0 = .ok (.aload_n 0, 1) := by decide +kernel
theorem dX7_looks_1 : decode cX7_looks 1 = .ok (.getfield 7, 3) := by decide +kernel
theorem dX7_looks_4 : decode cX7_looks 4 = .ok (.bipush 16, 2) := by decide +kernel
theorem dX7_looks_6 : decode cX7_looks 6 = .ok (.dup2, 1) := by decide +kernel
theorem dX7_looks_7 : decode cX7_looks 7 = .ok (.iaload, 1) := by decide +kernel
theorem dX7_looks_8 : decode cX7_looks 8 = .ok (.iconst 1, 1) := by decide +kernel
theorem dX7_looks_9 : decode cX7_looks 9 = .ok (.iadd, 1) := by decide +kernel
theorem dX7_looks_10 : decode cX7_looks 10 = .ok (.iastore, 1) := by decide +kernel
theorem dX7_looks_11 : decode cX7_looks 11 = .ok (.aload_n 0, 1) := by decide +kernel
theorem dX7_looks_12 : decode cX7_looks 12 = .ok (.iload_n 1, 1) := by decide +kernel
theorem dX7_looks_13 : decode cX7_looks 13 = .ok (.invokevirtual 66, 3) := by decide +kernel
theorem dX7_looks_16 : decode cX7_looks 16 = .ok (.ifCond .eq 45, 3) := by decide +kernel
theorem dX7_looks_19 : decode cX7_looks 19 = .ok (.aload_n 0, 1) := by decide +kernel
theorem dX7_looks_20 : decode cX7_looks 20 = .ok (.getfield 7, 3) := by decide +kernel
theorem dX7_looks_23 : decode cX7_looks 23 = .ok (.bipush 97, 2) := by decide +kernel
theorem dX7_looks_25 : decode cX7_looks 25 = .ok (.iload_n 1, 1) := by decide +kernel
theorem dX7_looks_26 : decode cX7_looks 26 = .ok (.iadd, 1) := by decide +kernel
theorem dX7_looks_27 : decode cX7_looks 27 = .ok (.dup2, 1) := by decide +kernel
theorem dX7_looks_28 : decode cX7_looks 28 = .ok (.iaload, 1) := by decide +kernel
theorem dX7_looks_29 : decode cX7_looks 29 = .ok (.iconst 1, 1) := by decide +kernel
theorem dX7_looks_30 : decode cX7_looks 30 = .ok (.iadd, 1) := by decide +kernel
theorem dX7_looks_31 : decode cX7_looks 31 = .ok (.iastore, 1) := by decide +kernel
theorem dX7_looks_32 : decode cX7_looks 32 = .ok (.aload_n 0, 1) := by decide +kernel
theorem dX7_looks_33 : decode cX7_looks 33 = .ok (.getfield 7, 3) := by decide +kernel
theorem dX7_looks_36 : decode cX7_looks 36 = .ok (.bipush 107, 2) := by decide +kernel
theorem dX7_looks_38 : decode cX7_looks 38 = .ok (.iload_n 1, 1) := by decide +kernel
theorem dX7_looks_39 : decode cX7_looks 39 = .ok (.iadd, 1) := by decide +kernel
theorem dX7_looks_40 : decode cX7_looks 40 = .ok (.aload_n 0, 1) := by decide +kernel
theorem dX7_looks_41 : decode cX7_looks 41 = .ok (.getfield 7, 3) := by decide +kernel
theorem dX7_looks_44 : decode cX7_looks 44 = .ok (.bipush 16, 2) := by decide +kernel
theorem dX7_looks_46 : decode cX7_looks 46 = .ok (.iaload, 1) := by decide +kernel
theorem dX7_looks_47 : decode cX7_looks 47 = .ok (.iastore, 1) := by decide +kernel
theorem dX7_looks_48 : decode cX7_looks 48 = .ok (.aload_n 0, 1) := by decide +kernel
theorem dX7_looks_49 : decode cX7_looks 49 = .ok (.getfield 7, 3) := by decide +kernel
theorem dX7_looks_52 : decode cX7_looks 52 = .ok (.bipush 9, 2) := by decide +kernel
theorem dX7_looks_54 : decode cX7_looks 54 = .ok (.dup2, 1) := by decide +kernel
theorem dX7_looks_55 : decode cX7_looks 55 = .ok (.iaload, 1) := by decide +kernel
theorem dX7_looks_56 : decode cX7_looks 56 = .ok (.iconst 1, 1) := by decide +kernel
theorem dX7_looks_57 : decode cX7_looks 57 = .ok (.iadd, 1) := by decide +kernel
theorem dX7_looks_58 : decode cX7_looks 58 = .ok (.iastore, 1) := by decide +kernel
theorem dX7_looks_59 : decode cX7_looks 59 = .ok (.iconst 1, 1) := by decide +kernel
theorem dX7_looks_60 : decode cX7_looks 60 = .ok (.ireturn, 1) := by decide +kernel
theorem dX7_looks_61 : decode cX7_looks 61 = .ok (.aload_n 0, 1) := by decide +kernel
theorem dX7_looks_62 : decode cX7_looks 62 = .ok (.getfield 7, 3) := by decide +kernel
theorem dX7_looks_65 : decode cX7_looks 65 = .ok (.bipush 10, 2) := by decide +kernel
theorem dX7_looks_67 : decode cX7_looks 67 = .ok (.dup2, 1) := by decide +kernel
theorem dX7_looks_68 : decode cX7_looks 68 = .ok (.iaload, 1) := by decide +kernel
theorem dX7_looks_69 : decode cX7_looks 69 = .ok (.iconst 1, 1) := by decide +kernel
theorem dX7_looks_70 : decode cX7_looks 70 = .ok (.iadd, 1) := by decide +kernel
theorem dX7_looks_71 : decode cX7_looks 71 = .ok (.iastore, 1) := by decide +kernel
theorem dX7_looks_72 : decode cX7_looks 72 = .ok (.aload_n 0, 1) := by decide +kernel
theorem dX7_looks_73 : decode cX7_looks 73 = .ok (.iload_n 1, 1) := by decide +kernel
theorem dX7_looks_74 : decode cX7_looks 74 = .ok (.invokevirtual 57, 3) := by decide +kernel
theorem dX7_looks_77 : decode cX7_looks 77 = .ok (.aload_n 0, 1) := by decide +kernel
theorem dX7_looks_78 : decode cX7_looks 78 = .ok (.getfield 7, 3) := by decide +kernel
theorem dX7_looks_81 : decode cX7_looks 81 = .ok (.iconst 0, 1) := by decide +kernel
theorem dX7_looks_82 : decode cX7_looks 82 = .ok (.iaload, 1) := by decide +kernel
theorem dX7_looks_83 : decode cX7_looks 83 = .ok (.if_icmp .le 17, 3) := by decide +kernel
theorem dX7_looks_86 : decode cX7_looks 86 = .ok (.aload_n 0, 1) := by decide +kernel
theorem dX7_looks_87 : decode cX7_looks 87 = .ok (.getfield 7, 3) := by decide +kernel
theorem dX7_looks_90 : decode cX7_looks 90 = .ok (.bipush 14, 2) := by decide +kernel
theorem dX7_looks_92 : decode cX7_looks 92 = .ok (.dup2, 1) := by decide +kernel
theorem dX7_looks_93 : decode cX7_looks 93 = .ok (.iaload, 1) := by decide +kernel
theorem dX7_looks_94 : decode cX7_looks 94 = .ok (.iconst 1, 1) := by decide +kernel
theorem dX7_looks_95 : decode cX7_looks 95 = .ok (.iadd, 1) := by decide +kernel
theorem dX7_looks_96 : decode cX7_looks 96 = .ok (.iastore, 1) := by decide +kernel
theorem dX7_looks_97 : decode cX7_looks 97 = .ok (.goto 68, 3) := by decide +kernel
theorem dX7_looks_100 : decode cX7_looks 100 = .ok (.aload_n 0, 1) := by decide +kernel
theorem dX7_looks_101 : decode cX7_looks 101 = .ok (.getfield 7, 3) := by decide +kernel
theorem dX7_looks_104 : decode cX7_looks 104 = .ok (.bipush 97, 2) := by decide +kernel
theorem dX7_looks_106 : decode cX7_looks 106 = .ok (.iload_n 1, 1) := by decide +kernel
theorem dX7_looks_107 : decode cX7_looks 107 = .ok (.iadd, 1) := by decide +kernel
theorem dX7_looks_108 : decode cX7_looks 108 = .ok (.iconst 1, 1) := by decide +kernel
theorem dX7_looks_109 : decode cX7_looks 109 = .ok (.iastore, 1) := by decide +kernel
theorem dX7_looks_110 : decode cX7_looks 110 = .ok (.aload_n 0, 1) := by decide +kernel
theorem dX7_looks_111 : decode cX7_looks 111 = .ok (.getfield 7, 3) := by decide +kernel
theorem dX7_looks_114 : decode cX7_looks 114 = .ok (.bipush 107, 2) := by decide +kernel
theorem dX7_looks_116 : decode cX7_looks 116 = .ok (.iload_n 1, 1) := by decide +kernel
theorem dX7_looks_117 : decode cX7_looks 117 = .ok (.iadd, 1) := by decide +kernel
theorem dX7_looks_118 : decode cX7_looks 118 = .ok (.aload_n 0, 1) := by decide +kernel
theorem dX7_looks_119 : decode cX7_looks 119 = .ok (.getfield 7, 3) := by decide +kernel
theorem dX7_looks_122 : decode cX7_looks 122 = .ok (.bipush 16, 2) := by decide +kernel
theorem dX7_looks_124 : decode cX7_looks 124 = .ok (.iaload, 1) := by decide +kernel
theorem dX7_looks_125 : decode cX7_looks 125 = .ok (.iastore, 1) := by decide +kernel
theorem dX7_looks_126 : decode cX7_looks 126 = .ok (.aload_n 0, 1) := by decide +kernel
theorem dX7_looks_127 : decode cX7_looks 127 = .ok (.getfield 7, 3) := by decide +kernel
theorem dX7_looks_130 : decode cX7_looks 130 = .ok (.bipush 117, 2) := by decide +kernel
theorem dX7_looks_132 : decode cX7_looks 132 = .ok (.iload_n 1, 1) := by decide +kernel
theorem dX7_looks_133 : decode cX7_looks 133 = .ok (.iadd, 1) := by decide +kernel
theorem dX7_looks_134 : decode cX7_looks 134 = .ok (.aload_n 0, 1) := by decide +kernel
theorem dX7_looks_135 : decode cX7_looks 135 = .ok (.getfield 7, 3) := by decide +kernel
theorem dX7_looks_138 : decode cX7_looks 138 = .ok (.bipush 16, 2) := by decide +kernel
theorem dX7_looks_140 : decode cX7_looks 140 = .ok (.iaload, 1) := by decide +kernel
theorem dX7_looks_141 : decode cX7_looks 141 = .ok (.iastore, 1) := by decide +kernel
theorem dX7_looks_142 : decode cX7_looks 142 = .ok (.aload_n 0, 1) := by decide +kernel
theorem dX7_looks_143 : decode cX7_looks 143 = .ok (.getfield 7, 3) := by decide +kernel
theorem dX7_looks_146 : decode cX7_looks 146 = .ok (.bipush 8, 2) := by decide +kernel
theorem dX7_looks_148 : decode cX7_looks 148 = .ok (.dup2, 1) := by decide +kernel
theorem dX7_looks_149 : decode cX7_looks 149 = .ok (.iaload, 1) := by decide +kernel
theorem dX7_looks_150 : decode cX7_looks 150 = .ok (.aload_n 0, 1) := by decide +kernel
theorem dX7_looks_151 : decode cX7_looks 151 = .ok (.iload_n 1, 1) := by decide +kernel
theorem dX7_looks_152 : decode cX7_looks 152 = .ok (.invokevirtual 86, 3) := by decide +kernel
theorem dX7_looks_155 : decode cX7_looks 155 = .ok (.ifCond .ge 7, 3) := by decide +kernel
theorem dX7_looks_158 : decode cX7_looks 158 = .ok (.iconst 1, 1) := by decide +kernel
theorem dX7_looks_159 : decode cX7_looks 159 = .ok (.goto 4, 3) := by decide +kernel
theorem dX7_looks_162 : decode cX7_looks 162 = .ok (.iconst 0, 1) := by decide +kernel
theorem dX7_looks_163 : decode cX7_looks 163 = .ok (.iadd, 1) := by decide +kernel
theorem dX7_looks_164 : decode cX7_looks 164 = .ok (.iastore, 1) := by decide +kernel
theorem dX7_looks_165 : decode cX7_looks 165 = .ok (.iconst 2, 1) := by decide +kernel
theorem dX7_looks_166 : decode cX7_looks 166 = .ok (.aload_n 0, 1) := by decide +kernel
theorem dX7_looks_167 : decode cX7_looks 167 = .ok (.getfield 7, 3) := by decide +kernel
theorem dX7_looks_170 : decode cX7_looks 170 = .ok (.iconst 5, 1) := by decide +kernel
theorem dX7_looks_171 : decode cX7_looks 171 = .ok (.iaload, 1) := by decide +kernel
theorem dX7_looks_172 : decode cX7_looks 172 = .ok (.iadd, 1) := by decide +kernel
theorem dX7_looks_173 : decode cX7_looks 173 = .ok (.ireturn, 1) := by decide +kernel
set_option maxRecDepth 20000 in
theorem ggX7_adds_X7_keeps : GoodIn wsX7_adds wsX7_keeps := goodIn_r _ [6, 1, 7, 8, 9, 5, 10, 11, 12, 13, 14, 15, 16, 17, 18, 19, 20, 21, 22, 23, 24, 25, 26, 27, 28, 29, 30, 31, 32] (by decide +kernel) (by decide +kernel)
set_option maxRecDepth 20000 in
theorem gX7_adds_X7_keeps : GoodIn wsX7_adds (wsV RX7 89 RX7 yX7_keeps wsX7_keeps) := goodIn_app (goodIn_of _ (by decide +kernel)) ggX7_adds_X7_keeps
theorem dX7_adds_0 : decode cX7_adds 0 = .ok (.iload_n 1, 1) := by decide +kernel
theorem dX7_adds_1 : decode cX7_adds 1 = .ok (.ifCond .eq 8, 3) := by decide +kernel
theorem dX7_adds_4 : decode cX7_adds 4 = .ok (.bipush 17, 2) := by decide +kernel
theorem dX7_adds_6 : decode cX7_adds 6 = .ok (.goto 5, 3) := by decide +kernel
theorem dX7_adds_9 : decode cX7_adds 9 = .ok (.bipush 57, 2) := by decide +kernel
theorem dX7_adds_11 : decode cX7_adds 11 = .ok (.istore 4, 2) := by decide +kernel
theorem dX7_adds_13 : decode cX7_adds 13 = .ok (.iload_n 1, 1) := by decide +kernel
theorem dX7_adds_14 : decode cX7_adds 14 = .ok (.ifCond .eq 7, 3) := by decide +kernel
theorem dX7_adds_17 : decode cX7_adds 17 = .ok (.iconst 5, 1) := by decide +kernel
theorem dX7_adds_18 : decode cX7_adds 18 = .ok (.goto 5, 3) := by decide +kernel
theorem dX7_adds_21 : decode cX7_adds 21 = .ok (.bipush 6, 2) := by decide +kernel
theorem dX7_adds_23 : decode cX7_adds 23 = .ok (.istore 5, 2) := by decide +kernel
theorem dX7_adds_25 : decode cX7_adds 25 = .ok (.aload_n 0, 1) := by decide +kernel
theorem dX7_adds_26 : decode cX7_adds 26 = .ok (.getfield 7, 3) := by decide +kernel
theorem dX7_adds_29 : decode cX7_adds 29 = .ok (.iload 4, 2) := by decide +kernel
theorem dX7_adds_31 : decode cX7_adds 31 = .ok (.iconst 2, 1) := by decide +kernel
theorem dX7_adds_32 : decode cX7_adds 32 = .ok (.aload_n 0, 1) := by decide +kernel
theorem dX7_adds_33 : decode cX7_adds 33 = .ok (.getfield 7, 3) := by decide +kernel
theorem dX7_adds_36 : decode cX7_adds 36 = .ok (.iload 5, 2) := by decide +kernel
theorem dX7_adds_38 : decode cX7_adds 38 = .ok (.iaload, 1) := by decide +kernel
theorem dX7_adds_39 : decode cX7_adds 39 = .ok (.imul, 1) := by decide +kernel
theorem dX7_adds_40 : decode cX7_adds 40 = .ok (.iadd, 1) := by decide +kernel
theorem dX7_adds_41 : decode cX7_adds 41 = .ok (.iload_n 2, 1) := by decide +kernel
theorem dX7_adds_42 : decode cX7_adds 42 = .ok (.iastore, 1) := by decide +kernel
theorem dX7_adds_43 : decode cX7_adds 43 = .ok (.aload_n 0, 1) := by decide +kernel
theorem dX7_adds_44 : decode cX7_adds 44 = .ok (.getfield 7, 3) := by decide +kernel
theorem dX7_adds_47 : decode cX7_adds 47 = .ok (.iload 4, 2) := by decide +kernel
theorem dX7_adds_49 : decode cX7_adds 49 = .ok (.iconst 2, 1) := by decide +kernel
theorem dX7_adds_50 : decode cX7_adds 50 = .ok (.aload_n 0, 1) := by decide +kernel
theorem dX7_adds_51 : decode cX7_adds 51 = .ok (.getfield 7, 3) := by decide +kernel
theorem dX7_adds_54 : decode cX7_adds 54 = .ok (.iload 5, 2) := by decide +kernel
theorem dX7_adds_56 : decode cX7_adds 56 = .ok (.iaload, 1) := by decide +kernel
theorem dX7_adds_57 : decode cX7_adds 57 = .ok (.imul, 1) := by decide +kernel
theorem dX7_adds_58 : decode cX7_adds 58 = .ok (.iadd, 1) := by decide +kernel
theorem dX7_adds_59 : decode cX7_adds 59 = .ok (.iconst 1, 1) := by decide +kernel
theorem dX7_adds_60 : decode cX7_adds 60 = .ok (.iadd, 1) := by decide +kernel
theorem dX7_adds_61 : decode cX7_adds 61 = .ok (.iload_n 3, 1) := by decide +kernel
theorem dX7_adds_62 : decode cX7_adds 62 = .ok (.iastore, 1) := by decide +kernel
theorem dX7_adds_63 : decode cX7_adds 63 = .ok (.aload_n 0, 1) := by decide +kernel
theorem dX7_adds_64 : decode cX7_adds 64 = .ok (.getfield 7, 3) := by decide +kernel
theorem dX7_adds_67 : decode cX7_adds 67 = .ok (.iload 5, 2) := by decide +kernel
theorem dX7_adds_69 : decode cX7_adds 69 = .ok (.dup2, 1) := by decide +kernel
theorem dX7_adds_70 : decode cX7_adds 70 = .ok (.iaload, 1) := by decide +kernel
theorem dX7_adds_71 : decode cX7_adds 71 = .ok (.iconst 1, 1) := by decide +kernel
theorem dX7_adds_72 : decode cX7_adds 72 = .ok (.iadd, 1) := by decide +kernel
theorem dX7_adds_73 : decode cX7_adds 73 = .ok (.iastore, 1) := by decide +kernel
theorem dX7_adds_74 : decode cX7_adds 74 = .ok (.iload_n 1, 1) := by decide +kernel
theorem dX7_adds_75 : decode cX7_adds 75 = .ok (.ifCond .eq 9, 3) := by decide +kernel
theorem dX7_adds_78 : decode cX7_adds 78 = .ok (.aload_n 0, 1) := by decide +kernel
theorem dX7_adds_79 : decode cX7_adds 79 = .ok (.iload_n 2, 1) := by decide +kernel
theorem dX7_adds_80 : decode cX7_adds 80 = .ok (.iload_n 2, 1) := by decide +kernel
theorem dX7_adds_81 : decode cX7_adds 81 = .ok (.invokevirtual 89, 3) := by decide +kernel
theorem dX7_adds_84 : decode cX7_adds 84 = .ok (.aload_n 0, 1) := by decide +kernel
theorem dX7_adds_85 : decode cX7_adds 85 = .ok (.getfield 7, 3) := by decide +kernel
theorem dX7_adds_88 : decode cX7_adds 88 = .ok (.iload 5, 2) := by decide +kernel
theorem dX7_adds_90 : decode cX7_adds 90 = .ok (.iaload, 1) := by decide +kernel
theorem dX7_adds_91 : decode cX7_adds 91 = .ok (.iconst 1, 1) := by decide +kernel
theorem dX7_adds_92 : decode cX7_adds 92 = .ok (.isub, 1) := by decide +kernel
theorem dX7_adds_93 : decode cX7_adds 93 = .ok (.ireturn, 1) := by decide +kernel
set_option maxRecDepth 20000 in
theorem ggX7_add_X7_isRowOf : GoodIn wsX7_add wsX7_isRowOf := goodIn_r _ [5, 6, 7, 4, 8] (by decide +kernel) (by decide +kernel)
set_option maxRecDepth 20000 in
theorem gX7_add_X7_isRowOf : GoodIn wsX7_add (va_wsS RX7 93 yX7_isRowOf wsX7_isRowOf) := goodIn_app (goodIn_of _ (by decide +kernel)) ggX7_add_X7_isRowOf
set_option maxRecDepth 20000 in
theorem ggX7_add_X7_changes : GoodIn wsX7_add wsX7_changes := goodIn_r _ [12, 13, 14, 15, 1, 36, 37, 38, 39, 40, 41, 42, 43, 44, 45, 46, 47, 48, 49] (by decide +kernel) (by decide +kernel)
set_option maxRecDepth 20000 in
theorem gX7_add_X7_changes : GoodIn wsX7_add (wsV RX7 96 RX7 yX7_changes wsX7_changes) := goodIn_app (goodIn_of _ (by decide +kernel)) ggX7_add_X7_changes
set_option maxRecDepth 20000 in
theorem ggX7_add_X7_adds : GoodIn wsX7_add wsX7_adds := goodIn_r _ [19, 1, 20, 21, 22, 4, 23, 24, 25, 26, 27, 28, 29, 30, 31, 32, 33, 34, 35, 36, 37, 38, 39, 40, 41, 42, 43, 44, 45, 46, 47, 48, 49] (by decide +kernel) (by decide +kernel)
set_option maxRecDepth 20000 in
theorem gX7_add_X7_adds : GoodIn wsX7_add (wsV RX7 99 RX7 yX7_adds wsX7_adds) := goodIn_app (goodIn_of _ (by decide +kernel)) ggX7_add_X7_adds
theorem dX7_add_0 : decode cX7_add 0 = .ok (.iload_n 2, 1) := by decide +kernel
theorem dX7_add_1 : decode cX7_add 1 = .ok (.iload_n 3, 1) := by decide +kernel
theorem dX7_add_2 : decode cX7_add 2 = .ok (.invokestatic 93, 3) := by decide +kernel
theorem dX7_add_5 : decode cX7_add 5 = .ok (.ifCond .ne 5, 3) := by decide +kernel
theorem dX7_add_8 : decode cX7_add 8 = .ok (.iconst (-1), 1) := by decide +kernel
theorem dX7_add_9 : decode cX7_add 9 = .ok (.ireturn, 1) := by decide +kernel
theorem dX7_add_10 : decode cX7_add 10 = .ok (.aload_n 0, 1) := by decide +kernel
theorem dX7_add_11 : decode cX7_add 11 = .ok (.getfield 7, 3) := by decide +kernel
theorem dX7_add_14 : decode cX7_add 14 = .ok (.iload_n 1, 1) := by decide +kernel
theorem dX7_add_15 : decode cX7_add 15 = .ok (.ifCond .eq 7, 3) := by decide +kernel
theorem dX7_add_18 : decode cX7_add 18 = .ok (.iconst 5, 1) := by decide +kernel
theorem dX7_add_19 : decode cX7_add 19 = .ok (.goto 5, 3) := by decide +kernel
theorem dX7_add_22 : decode cX7_add 22 = .ok (.bipush 6, 2) := by decide +kernel
theorem dX7_add_24 : decode cX7_add 24 = .ok (.iaload, 1) := by decide +kernel
theorem dX7_add_25 : decode cX7_add 25 = .ok (.bipush 20, 2) := by decide +kernel
theorem dX7_add_27 : decode cX7_add 27 = .ok (.if_icmp .ne 6, 3) := by decide +kernel
theorem dX7_add_30 : decode cX7_add 30 = .ok (.bipush (-3), 2) := by decide +kernel
theorem dX7_add_32 : decode cX7_add 32 = .ok (.ireturn, 1) := by decide +kernel
theorem dX7_add_33 : decode cX7_add 33 = .ok (.aload_n 0, 1) := by decide +kernel
theorem dX7_add_34 : decode cX7_add 34 = .ok (.invokevirtual 96, 3) := by decide +kernel
theorem dX7_add_37 : decode cX7_add 37 = .ok (.aload_n 0, 1) := by decide +kernel
theorem dX7_add_38 : decode cX7_add 38 = .ok (.iload_n 1, 1) := by decide +kernel
theorem dX7_add_39 : decode cX7_add 39 = .ok (.iload_n 2, 1) := by decide +kernel
theorem dX7_add_40 : decode cX7_add 40 = .ok (.iload_n 3, 1) := by decide +kernel
theorem dX7_add_41 : decode cX7_add 41 = .ok (.invokevirtual 99, 3) := by decide +kernel
theorem dX7_add_44 : decode cX7_add 44 = .ok (.ireturn, 1) := by decide +kernel
set_option maxRecDepth 20000 in
theorem ggX7_drop_X7_isInner : GoodIn wsX7_drop wsX7_isInner := goodIn_r _ [6, 1, 7, 8, 5, 9, 37, 38, 39, 40, 41, 42, 43, 44, 45, 46, 47, 48, 49, 50] (by decide +kernel) (by decide +kernel)
set_option maxRecDepth 20000 in
theorem gX7_drop_X7_isInner : GoodIn wsX7_drop (wsV RX7 103 RX7 yX7_isInner wsX7_isInner) := goodIn_app (goodIn_of _ (by decide +kernel)) ggX7_drop_X7_isInner
set_option maxRecDepth 20000 in
theorem ggX7_drop_X7_isOuter : GoodIn wsX7_drop wsX7_isOuter := goodIn_r _ [13, 1, 7, 8, 5, 9, 37, 38, 39, 40, 41, 42, 43, 44, 45, 46, 47, 48, 49, 50] (by decide +kernel) (by decide +kernel)
set_option maxRecDepth 20000 in
theorem gX7_drop_X7_isOuter : GoodIn wsX7_drop (wsV RX7 106 RX7 yX7_isOuter wsX7_isOuter) := goodIn_app (goodIn_of _ (by decide +kernel)) ggX7_drop_X7_isOuter
set_option maxRecDepth 20000 in
theorem ggX7_drop_X7_changes : GoodIn wsX7_drop wsX7_changes := goodIn_r _ [17, 18, 19, 20, 1, 37, 38, 39, 40, 41, 42, 43, 44, 45, 46, 47, 48, 49, 50] (by decide +kernel) (by decide +kernel)
set_option maxRecDepth 20000 in
theorem gX7_drop_X7_changes : GoodIn wsX7_drop (wsV RX7 96 RX7 yX7_changes wsX7_changes) := goodIn_app (goodIn_of _ (by decide +kernel)) ggX7_drop_X7_changes
set_option maxRecDepth 20000 in
theorem ggX7_drop_X7_keeps : GoodIn wsX7_drop wsX7_keeps := goodIn_r _ [24, 1, 25, 26, 27, 5, 28, 29, 30, 31, 32, 33, 34, 35, 36, 37, 38, 39, 40, 41, 42, 43, 44, 45, 46, 47, 48, 49, 50] (by decide +kernel) (by decide +kernel)
set_option maxRecDepth 20000 in
theorem gX7_drop_X7_keeps : GoodIn wsX7_drop (wsV RX7 89 RX7 yX7_keeps wsX7_keeps) := goodIn_app (goodIn_of _ (by decide +kernel)) ggX7_drop_X7_keeps
theorem dX7_drop_0 : decode cX7_drop 0 = .ok (.iload_n 1, 1) := by decide +kernel
theorem dX7_drop_1 : decode cX7_drop 1 = .ok (.ifCond .eq 14, 3) := by decide +kernel
theorem dX7_drop_4 : decode cX7_drop 4 = .ok (.aload_n 0, 1) := by decide +kernel
theorem dX7_drop_5 : decode cX7_drop 5 = .ok (.iload_n 2, 1) := by decide +kernel
theorem dX7_drop_6 : decode cX7_drop 6 = .ok (.invokevirtual 103, 3) := by decide +kernel
theorem dX7_drop_9 : decode cX7_drop 9 = .ok (.ifCond .ne 16, 3) := by decide +kernel
theorem dX7_drop_12 : decode cX7_drop 12 = .ok (.goto 11, 3) := by decide +kernel
theorem dX7_drop_15 : decode cX7_drop 15 = .ok (.aload_n 0, 1) := by decide +kernel
theorem dX7_drop_16 : decode cX7_drop 16 = .ok (.iload_n 2, 1) := by decide +kernel
theorem dX7_drop_17 : decode cX7_drop 17 = .ok (.invokevirtual 106, 3) := by decide +kernel
theorem dX7_drop_20 : decode cX7_drop 20 = .ok (.ifCond .ne 5, 3) := by decide +kernel
theorem dX7_drop_23 : decode cX7_drop 23 = .ok (.iconst (-1), 1) := by decide +kernel
theorem dX7_drop_24 : decode cX7_drop 24 = .ok (.ireturn, 1) := by decide +kernel
theorem dX7_drop_25 : decode cX7_drop 25 = .ok (.aload_n 0, 1) := by decide +kernel
theorem dX7_drop_26 : decode cX7_drop 26 = .ok (.invokevirtual 96, 3) := by decide +kernel
theorem dX7_drop_29 : decode cX7_drop 29 = .ok (.iload_n 1, 1) := by decide +kernel
theorem dX7_drop_30 : decode cX7_drop 30 = .ok (.ifCond .eq 8, 3) := by decide +kernel
theorem dX7_drop_33 : decode cX7_drop 33 = .ok (.bipush 17, 2) := by decide +kernel
theorem dX7_drop_35 : decode cX7_drop 35 = .ok (.goto 5, 3) := by decide +kernel
theorem dX7_drop_38 : decode cX7_drop 38 = .ok (.bipush 57, 2) := by decide +kernel
theorem dX7_drop_40 : decode cX7_drop 40 = .ok (.istore_n 3, 1) := by decide +kernel
theorem dX7_drop_41 : decode cX7_drop 41 = .ok (.iload_n 1, 1) := by decide +kernel
theorem dX7_drop_42 : decode cX7_drop 42 = .ok (.ifCond .eq 7, 3) := by decide +kernel
theorem dX7_drop_45 : decode cX7_drop 45 = .ok (.iconst 5, 1) := by decide +kernel
theorem dX7_drop_46 : decode cX7_drop 46 = .ok (.goto 5, 3) := by decide +kernel
theorem dX7_drop_49 : decode cX7_drop 49 = .ok (.bipush 6, 2) := by decide +kernel
theorem dX7_drop_51 : decode cX7_drop 51 = .ok (.istore 4, 2) := by decide +kernel
theorem dX7_drop_53 : decode cX7_drop 53 = .ok (.aload_n 0, 1) := by decide +kernel
theorem dX7_drop_54 : decode cX7_drop 54 = .ok (.getfield 7, 3) := by decide +kernel
theorem dX7_drop_57 : decode cX7_drop 57 = .ok (.iload_n 3, 1) := by decide +kernel
theorem dX7_drop_58 : decode cX7_drop 58 = .ok (.iconst 2, 1) := by decide +kernel
theorem dX7_drop_59 : decode cX7_drop 59 = .ok (.iload_n 2, 1) := by decide +kernel
theorem dX7_drop_60 : decode cX7_drop 60 = .ok (.imul, 1) := by decide +kernel
theorem dX7_drop_61 : decode cX7_drop 61 = .ok (.iadd, 1) := by decide +kernel
theorem dX7_drop_62 : decode cX7_drop 62 = .ok (.iaload, 1) := by decide +kernel
theorem dX7_drop_63 : decode cX7_drop 63 = .ok (.istore 5, 2) := by decide +kernel
theorem dX7_drop_65 : decode cX7_drop 65 = .ok (.aload_n 0, 1) := by decide +kernel
theorem dX7_drop_66 : decode cX7_drop 66 = .ok (.getfield 7, 3) := by decide +kernel
theorem dX7_drop_69 : decode cX7_drop 69 = .ok (.iload 4, 2) := by decide +kernel
theorem dX7_drop_71 : decode cX7_drop 71 = .ok (.dup2, 1) := by decide +kernel
theorem dX7_drop_72 : decode cX7_drop 72 = .ok (.iaload, 1) := by decide +kernel
theorem dX7_drop_73 : decode cX7_drop 73 = .ok (.iconst 1, 1) := by decide +kernel
theorem dX7_drop_74 : decode cX7_drop 74 = .ok (.isub, 1) := by decide +kernel
theorem dX7_drop_75 : decode cX7_drop 75 = .ok (.iastore, 1) := by decide +kernel
theorem dX7_drop_76 : decode cX7_drop 76 = .ok (.iconst 2, 1) := by decide +kernel
theorem dX7_drop_77 : decode cX7_drop 77 = .ok (.iload_n 2, 1) := by decide +kernel
theorem dX7_drop_78 : decode cX7_drop 78 = .ok (.imul, 1) := by decide +kernel
theorem dX7_drop_79 : decode cX7_drop 79 = .ok (.istore 6, 2) := by decide +kernel
theorem dX7_drop_81 : decode cX7_drop 81 = .ok (.iload 6, 2) := by decide +kernel
theorem dX7_drop_83 : decode cX7_drop 83 = .ok (.iconst 2, 1) := by decide +kernel
theorem dX7_drop_84 : decode cX7_drop 84 = .ok (.aload_n 0, 1) := by decide +kernel
theorem dX7_drop_85 : decode cX7_drop 85 = .ok (.getfield 7, 3) := by decide +kernel
theorem dX7_drop_88 : decode cX7_drop 88 = .ok (.iload 4, 2) := by decide +kernel
theorem dX7_drop_90 : decode cX7_drop 90 = .ok (.iaload, 1) := by decide +kernel
theorem dX7_drop_91 : decode cX7_drop 91 = .ok (.imul, 1) := by decide +kernel
theorem dX7_drop_92 : decode cX7_drop 92 = .ok (.if_icmp .ge 29, 3) := by decide +kernel
theorem dX7_drop_95 : decode cX7_drop 95 = .ok (.aload_n 0, 1) := by decide +kernel
theorem dX7_drop_96 : decode cX7_drop 96 = .ok (.getfield 7, 3) := by decide +kernel
theorem dX7_drop_99 : decode cX7_drop 99 = .ok (.iload_n 3, 1) := by decide +kernel
theorem dX7_drop_100 : decode cX7_drop 100 = .ok (.iload 6, 2) := by decide +kernel
theorem dX7_drop_102 : decode cX7_drop 102 = .ok (.iadd, 1) := by decide +kernel
theorem dX7_drop_103 : decode cX7_drop 103 = .ok (.aload_n 0, 1) := by decide +kernel
theorem dX7_drop_104 : decode cX7_drop 104 = .ok (.getfield 7, 3) := by decide +kernel
theorem dX7_drop_107 : decode cX7_drop 107 = .ok (.iload_n 3, 1) := by decide +kernel
theorem dX7_drop_108 : decode cX7_drop 108 = .ok (.iload 6, 2) := by decide +kernel
theorem dX7_drop_110 : decode cX7_drop 110 = .ok (.iadd, 1) := by decide +kernel
theorem dX7_drop_111 : decode cX7_drop 111 = .ok (.iconst 2, 1) := by decide +kernel
theorem dX7_drop_112 : decode cX7_drop 112 = .ok (.iadd, 1) := by decide +kernel
theorem dX7_drop_113 : decode cX7_drop 113 = .ok (.iaload, 1) := by decide +kernel
theorem dX7_drop_114 : decode cX7_drop 114 = .ok (.iastore, 1) := by decide +kernel
theorem dX7_drop_115 : decode cX7_drop 115 = .ok (.iinc 6 1, 3) := by decide +kernel
theorem dX7_drop_118 : decode cX7_drop 118 = .ok (.goto (-37), 3) := by decide +kernel
theorem dX7_drop_121 : decode cX7_drop 121 = .ok (.iload_n 1, 1) := by decide +kernel
theorem dX7_drop_122 : decode cX7_drop 122 = .ok (.ifCond .eq 14, 3) := by decide +kernel
theorem dX7_drop_125 : decode cX7_drop 125 = .ok (.aload_n 0, 1) := by decide +kernel
theorem dX7_drop_126 : decode cX7_drop 126 = .ok (.iload 5, 2) := by decide +kernel
theorem dX7_drop_128 : decode cX7_drop 128 = .ok (.iload 5, 2) := by decide +kernel
theorem dX7_drop_130 : decode cX7_drop 130 = .ok (.invokevirtual 89, 3) := by decide +kernel
theorem dX7_drop_133 : decode cX7_drop 133 = .ok (.goto 29, 3) := by decide +kernel
theorem dX7_drop_136 : decode cX7_drop 136 = .ok (.aload_n 0, 1) := by decide +kernel
theorem dX7_drop_137 : decode cX7_drop 137 = .ok (.getfield 7, 3) := by decide +kernel
theorem dX7_drop_140 : decode cX7_drop 140 = .ok (.bipush 7, 2) := by decide +kernel
theorem dX7_drop_142 : decode cX7_drop 142 = .ok (.dup2, 1) := by decide +kernel
theorem dX7_drop_143 : decode cX7_drop 143 = .ok (.iaload, 1) := by decide +kernel
theorem dX7_drop_144 : decode cX7_drop 144 = .ok (.iload_n 2, 1) := by decide +kernel
theorem dX7_drop_145 : decode cX7_drop 145 = .ok (.aload_n 0, 1) := by decide +kernel
theorem dX7_drop_146 : decode cX7_drop 146 = .ok (.getfield 7, 3) := by decide +kernel
theorem dX7_drop_149 : decode cX7_drop 149 = .ok (.bipush 7, 2) := by decide +kernel
theorem dX7_drop_151 : decode cX7_drop 151 = .ok (.iaload, 1) := by decide +kernel
theorem dX7_drop_152 : decode cX7_drop 152 = .ok (.if_icmp .ge 7, 3) := by decide +kernel
theorem dX7_drop_155 : decode cX7_drop 155 = .ok (.iconst 1, 1) := by decide +kernel
theorem dX7_drop_156 : decode cX7_drop 156 = .ok (.goto 4, 3) := by decide +kernel
theorem dX7_drop_159 : decode cX7_drop 159 = .ok (.iconst 0, 1) := by decide +kernel

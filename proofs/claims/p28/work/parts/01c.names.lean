theorem dX4_walk_8 : decode cX4_walk 8 = .ok (.if_icmp .le 5, 3) := by decide +kernel
theorem dX4_walk_11 : decode cX4_walk 11 = .ok (.iconst (-1), 1) := by decide +kernel
theorem dX4_walk_12 : decode cX4_walk 12 = .ok (.ireturn, 1) := by decide +kernel
theorem dX4_walk_13 : decode cX4_walk 13 = .ok (.aload_n 0, 1) := by decide +kernel
theorem dX4_walk_14 : decode cX4_walk 14 = .ok (.getfield 64, 3) := by decide +kernel
theorem dX4_walk_17 : decode cX4_walk 17 = .ok (.aload_n 0, 1) := by decide +kernel
theorem dX4_walk_18 : decode cX4_walk 18 = .ok (.getfield 12, 3) := by decide +kernel
theorem dX4_walk_21 : decode cX4_walk 21 = .ok (.invokevirtual 93, 3) := by decide +kernel
theorem dX4_walk_24 : decode cX4_walk 24 = .ok (.if_icmp .lt 6, 3) := by decide +kernel
theorem dX4_walk_27 : decode cX4_walk 27 = .ok (.bipush (-2), 2) := by decide +kernel
theorem dX4_walk_29 : decode cX4_walk 29 = .ok (.ireturn, 1) := by decide +kernel
theorem dX4_walk_30 : decode cX4_walk 30 = .ok (.aload_n 0, 1) := by decide +kernel
theorem dX4_walk_31 : decode cX4_walk 31 = .ok (.getfield 47, 3) := by decide +kernel
theorem dX4_walk_34 : decode cX4_walk 34 = .ok (.iconst 2, 1) := by decide +kernel
theorem dX4_walk_35 : decode cX4_walk 35 = .ok (.iaload, 1) := by decide +kernel
theorem dX4_walk_36 : decode cX4_walk 36 = .ok (.istore_n 2, 1) := by decide +kernel
theorem dX4_walk_37 : decode cX4_walk 37 = .ok (.iconst 0, 1) := by decide +kernel
theorem dX4_walk_38 : decode cX4_walk 38 = .ok (.istore_n 3, 1) := by decide +kernel
theorem dX4_walk_39 : decode cX4_walk 39 = .ok (.iload_n 3, 1) := by decide +kernel
theorem dX4_walk_40 : decode cX4_walk 40 = .ok (.iload_n 1, 1) := by decide +kernel
theorem dX4_walk_41 : decode cX4_walk 41 = .ok (.if_icmp .ge 82, 3) := by decide +kernel
theorem dX4_walk_44 : decode cX4_walk 44 = .ok (.aload_n 0, 1) := by decide +kernel
theorem dX4_walk_45 : decode cX4_walk 45 = .ok (.getfield 64, 3) := by decide +kernel
theorem dX4_walk_48 : decode cX4_walk 48 = .ok (.aload_n 0, 1) := by decide +kernel
theorem dX4_walk_49 : decode cX4_walk 49 = .ok (.getfield 12, 3) := by decide +kernel
theorem dX4_walk_52 : decode cX4_walk 52 = .ok (.invokevirtual 93, 3) := by decide +kernel
theorem dX4_walk_55 : decode cX4_walk 55 = .ok (.if_icmp .ge 68, 3) := by decide +kernel
theorem dX4_walk_58 : decode cX4_walk 58 = .ok (.aload_n 0, 1) := by decide +kernel
theorem dX4_walk_59 : decode cX4_walk 59 = .ok (.getfield 12, 3) := by decide +kernel
theorem dX4_walk_62 : decode cX4_walk 62 = .ok (.aload_n 0, 1) := by decide +kernel
theorem dX4_walk_63 : decode cX4_walk 63 = .ok (.getfield 64, 3) := by decide +kernel
theorem dX4_walk_66 : decode cX4_walk 66 = .ok (.invokevirtual 71, 3) := by decide +kernel
theorem dX4_walk_69 : decode cX4_walk 69 = .ok (.istore 4, 2) := by decide +kernel
theorem dX4_walk_71 : decode cX4_walk 71 = .ok (.aload_n 0, 1) := by decide +kernel
theorem dX4_walk_72 : decode cX4_walk 72 = .ok (.iload 4, 2) := by decide +kernel
theorem dX4_walk_74 : decode cX4_walk 74 = .ok (.invokevirtual 119, 3) := by decide +kernel
theorem dX4_walk_77 : decode cX4_walk 77 = .ok (.aload_n 0, 1) := by decide +kernel
theorem dX4_walk_78 : decode cX4_walk 78 = .ok (.dup, 1) := by decide +kernel
theorem dX4_walk_79 : decode cX4_walk 79 = .ok (.getfield 68, 3) := by decide +kernel
theorem dX4_walk_82 : decode cX4_walk 82 = .ok (.aload_n 0, 1) := by decide +kernel
theorem dX4_walk_83 : decode cX4_walk 83 = .ok (.getfield 12, 3) := by decide +kernel
theorem dX4_walk_86 : decode cX4_walk 86 = .ok (.aload_n 0, 1) := by decide +kernel
theorem dX4_walk_87 : decode cX4_walk 87 = .ok (.getfield 64, 3) := by decide +kernel
theorem dX4_walk_90 : decode cX4_walk 90 = .ok (.invokevirtual 79, 3) := by decide +kernel
theorem dX4_walk_93 : decode cX4_walk 93 = .ok (.aload_n 0, 1) := by decide +kernel
theorem dX4_walk_94 : decode cX4_walk 94 = .ok (.getfield 24, 3) := by decide +kernel
theorem dX4_walk_97 : decode cX4_walk 97 = .ok (.iload 4, 2) := by decide +kernel
theorem dX4_walk_99 : decode cX4_walk 99 = .ok (.invokevirtual 122, 3) := by decide +kernel
theorem dX4_walk_102 : decode cX4_walk 102 = .ok (.imul, 1) := by decide +kernel
theorem dX4_walk_103 : decode cX4_walk 103 = .ok (.iadd, 1) := by decide +kernel
theorem dX4_walk_104 : decode cX4_walk 104 = .ok (.putfield 68, 3) := by decide +kernel
theorem dX4_walk_107 : decode cX4_walk 107 = .ok (.aload_n 0, 1) := by decide +kernel
theorem dX4_walk_108 : decode cX4_walk 108 = .ok (.dup, 1) := by decide +kernel
theorem dX4_walk_109 : decode cX4_walk 109 = .ok (.getfield 64, 3) := by decide +kernel
theorem dX4_walk_112 : decode cX4_walk 112 = .ok (.iconst 1, 1) := by decide +kernel
theorem dX4_walk_113 : decode cX4_walk 113 = .ok (.iadd, 1) := by decide +kernel
theorem dX4_walk_114 : decode cX4_walk 114 = .ok (.putfield 64, 3) := by decide +kernel
theorem dX4_walk_117 : decode cX4_walk 117 = .ok (.iinc 3 1, 3) := by decide +kernel
theorem dX4_walk_120 : decode cX4_walk 120 = .ok (.goto (-81), 3) := by decide +kernel
theorem dX4_walk_123 : decode cX4_walk 123 = .ok (.aload_n 0, 1) := by decide +kernel
theorem dX4_walk_124 : decode cX4_walk 124 = .ok (.getfield 47, 3) := by decide +kernel
theorem dX4_walk_127 : decode cX4_walk 127 = .ok (.iconst 2, 1) := by decide +kernel
theorem dX4_walk_128 : decode cX4_walk 128 = .ok (.iaload, 1) := by decide +kernel
theorem dX4_walk_129 : decode cX4_walk 129 = .ok (.iload_n 2, 1) := by decide +kernel
theorem dX4_walk_130 : decode cX4_walk 130 = .ok (.isub, 1) := by decide +kernel
theorem dX4_walk_131 : decode cX4_walk 131 = .ok (.ireturn, 1) := by decide +kernel
theorem dX4_beginAgain_0 : decode cX4_beginAgain 0 = .ok (.aload_n 0, 1) := by decide +kernel
theorem dX4_beginAgain_1 : decode cX4_beginAgain 1 = .ok (.getfield 68, 3) := by decide +kernel
theorem dX4_beginAgain_4 : decode cX4_beginAgain 4 = .ok (.istore_n 1, 1) := by decide +kernel
theorem dX4_beginAgain_5 : decode cX4_beginAgain 5 = .ok (.aload_n 0, 1) := by decide +kernel
theorem dX4_beginAgain_6 : decode cX4_beginAgain 6 = .ok (.iconst 0, 1) := by decide +kernel
theorem dX4_beginAgain_7 : decode cX4_beginAgain 7 = .ok (.putfield 64, 3) := by decide +kernel
theorem dX4_beginAgain_10 : decode cX4_beginAgain 10 = .ok (.aload_n 0, 1) := by decide +kernel
theorem dX4_beginAgain_11 : decode cX4_beginAgain 11 = .ok (.iconst 0, 1) := by decide +kernel
theorem dX4_beginAgain_12 : decode cX4_beginAgain 12 = .ok (.putfield 68, 3) := by decide +kernel
theorem dX4_beginAgain_15 : decode cX4_beginAgain 15 = .ok (.iload_n 1, 1) := by decide +kernel
theorem dX4_beginAgain_16 : decode cX4_beginAgain 16 = .ok (.ireturn, 1) := by decide +kernel
set_option maxRecDepth 20000 in
theorem ggX4_throwAllOut_X2_loseAll : GoodIn wsX4_throwAllOut wsX2_loseAll := goodIn_r _ [7, 8, 9, 10, 11, 6, 12, 21, 22, 23, 24] (by decide +kernel) (by decide +kernel)
set_option maxRecDepth 20000 in
theorem gX4_throwAllOut_X2_loseAll : GoodIn wsX4_throwAllOut (wsV RX4 125 RX2 yX2_loseAll wsX2_loseAll) := goodIn_app (goodIn_of _ (by decide +kernel)) ggX4_throwAllOut_X2_loseAll
theorem dX4_throwAllOut_0 : decode cX4_throwAllOut 0 = .ok (.aload_n 0, 1) := by decide +kernel
theorem dX4_throwAllOut_1 : decode cX4_throwAllOut 1 = .ok (.getfield 31, 3) := by decide +kernel
theorem dX4_throwAllOut_4 : decode cX4_throwAllOut 4 = .ok (.invokevirtual 125, 3) := by decide +kernel
theorem dX4_throwAllOut_7 : decode cX4_throwAllOut 7 = .ok (.istore_n 1, 1) := by decide +kernel
theorem dX4_throwAllOut_8 : decode cX4_throwAllOut 8 = .ok (.aload_n 0, 1) := by decide +kernel
theorem dX4_throwAllOut_9 : decode cX4_throwAllOut 9 = .ok (.getfield 47, 3) := by decide +kernel
theorem dX4_throwAllOut_12 : decode cX4_throwAllOut 12 = .ok (.iconst 4, 1) := by decide +kernel
theorem dX4_throwAllOut_13 : decode cX4_throwAllOut 13 = .ok (.dup2, 1) := by decide +kernel
theorem dX4_throwAllOut_14 : decode cX4_throwAllOut 14 = .ok (.iaload, 1) := by decide +kernel
theorem dX4_throwAllOut_15 : decode cX4_throwAllOut 15 = .ok (.iload_n 1, 1) := by decide +kernel
theorem dX4_throwAllOut_16 : decode cX4_throwAllOut 16 = .ok (.iadd, 1) := by decide +kernel
theorem dX4_throwAllOut_17 : decode cX4_throwAllOut 17 = .ok (.iastore, 1) := by decide +kernel
theorem dX4_throwAllOut_18 : decode cX4_throwAllOut 18 = .ok (.iload_n 1, 1) := by decide +kernel
theorem dX4_throwAllOut_19 : decode cX4_throwAllOut 19 = .ok (.ireturn, 1) := by decide +kernel
set_option maxRecDepth 20000 in
theorem ggX4_adjust_X4_makeRoom : GoodIn wsX4_adjust wsX4_makeRoom := goodIn_r _ [7, 2, 8, 9, 10, 11, 12, 13, 6, 14, 15, 16, 17, 18, 19, 20, 21, 22, 23, 24, 25, 26, 27, 28, 29, 30, 31, 32, 33, 34, 35, 36, 37, 38, 39, 40, 80, 81, 82, 83, 84, 85, 86, 87, 88, 89, 90, 91, 92, 93, 94] (by decide +kernel) (by decide +kernel)
set_option maxRecDepth 20000 in
theorem gX4_adjust_X4_makeRoom : GoodIn wsX4_adjust (wsV RX4 131 RX4 yX4_makeRoom wsX4_makeRoom) := goodIn_app (goodIn_of _ (by decide +kernel)) ggX4_adjust_X4_makeRoom
set_option maxRecDepth 20000 in
theorem ggX4_adjust_X4_findAnswers : GoodIn wsX4_adjust wsX4_findAnswers := goodIn_r _ [44, 9, 45, 2, 46, 47, 48, 24, 49, 26, 50, 51, 52, 53, 54, 55, 56, 57, 58, 59, 60, 61, 62, 63, 64, 65, 66, 67, 80, 81, 82, 83, 84, 85, 86, 87, 92, 93, 94, 95, 96, 97] (by decide +kernel) (by decide +kernel)
set_option maxRecDepth 20000 in
theorem gX4_adjust_X4_findAnswers : GoodIn wsX4_adjust (wsV RX4 134 RX4 yX4_findAnswers wsX4_findAnswers) := goodIn_app (goodIn_of _ (by decide +kernel)) ggX4_adjust_X4_findAnswers
set_option maxRecDepth 20000 in
theorem ggX4_adjust_X4_throwAllOut : GoodIn wsX4_adjust wsX4_throwAllOut := goodIn_r _ [71, 8, 10, 72, 73, 74, 18, 75, 20, 76, 77, 78, 79, 80, 81, 82, 83, 84, 85, 86, 87, 88, 89, 90, 91] (by decide +kernel) (by decide +kernel)
set_option maxRecDepth 20000 in
theorem gX4_adjust_X4_throwAllOut : GoodIn wsX4_adjust (wsV RX4 137 RX4 yX4_throwAllOut wsX4_throwAllOut) := goodIn_app (goodIn_of _ (by decide +kernel)) ggX4_adjust_X4_throwAllOut
theorem dX4_adjust_0 : decode cX4_adjust 0 = .ok (.iload_n 1, 1) := by decide +kernel
theorem dX4_adjust_1 : decode cX4_adjust 1 = .ok (.ifCond .lt 21, 3) := by decide +kernel
theorem dX4_adjust_4 : decode cX4_adjust 4 = .ok (.iload_n 1, 1) := by decide +kernel
theorem dX4_adjust_5 : decode cX4_adjust 5 = .ok (.iconst 4, 1) := by decide +kernel
theorem dX4_adjust_6 : decode cX4_adjust 6 = .ok (.if_icmp .gt 16, 3) := by decide +kernel
theorem dX4_adjust_9 : decode cX4_adjust 9 = .ok (.iload_n 2, 1) := by decide +kernel
theorem dX4_adjust_10 : decode cX4_adjust 10 = .ok (.ifCond .lt 12, 3) := by decide +kernel
theorem dX4_adjust_13 : decode cX4_adjust 13 = .ok (.iload_n 2, 1) := by decide +kernel
theorem dX4_adjust_14 : decode cX4_adjust 14 = .ok (.getstatic 128, 3) := by decide +kernel
theorem dX4_adjust_17 : decode cX4_adjust 17 = .ok (.iload_n 1, 1) := by decide +kernel
theorem dX4_adjust_18 : decode cX4_adjust 18 = .ok (.iaload, 1) := by decide +kernel
theorem dX4_adjust_19 : decode cX4_adjust 19 = .ok (.if_icmp .le 5, 3) := by decide +kernel
theorem dX4_adjust_22 : decode cX4_adjust 22 = .ok (.iconst (-1), 1) := by decide +kernel
theorem dX4_adjust_23 : decode cX4_adjust 23 = .ok (.ireturn, 1) := by decide +kernel
theorem dX4_adjust_24 : decode cX4_adjust 24 = .ok (.aload_n 0, 1) := by decide +kernel
theorem dX4_adjust_25 : decode cX4_adjust 25 = .ok (.getfield 44, 3) := by decide +kernel
theorem dX4_adjust_28 : decode cX4_adjust 28 = .ok (.iload_n 1, 1) := by decide +kernel
theorem dX4_adjust_29 : decode cX4_adjust 29 = .ok (.iload_n 2, 1) := by decide +kernel
theorem dX4_adjust_30 : decode cX4_adjust 30 = .ok (.iastore, 1) := by decide +kernel
theorem dX4_adjust_31 : decode cX4_adjust 31 = .ok (.iload_n 1, 1) := by decide +kernel
theorem dX4_adjust_32 : decode cX4_adjust 32 = .ok (.ifCond .ne 9, 3) := by decide +kernel
theorem dX4_adjust_35 : decode cX4_adjust 35 = .ok (.aload_n 0, 1) := by decide +kernel
theorem dX4_adjust_36 : decode cX4_adjust 36 = .ok (.iconst (-1), 1) := by decide +kernel
theorem dX4_adjust_37 : decode cX4_adjust 37 = .ok (.invokevirtual 131, 3) := by decide +kernel
theorem dX4_adjust_40 : decode cX4_adjust 40 = .ok (.ireturn, 1) := by decide +kernel
theorem dX4_adjust_41 : decode cX4_adjust 41 = .ok (.aload_n 0, 1) := by decide +kernel
theorem dX4_adjust_42 : decode cX4_adjust 42 = .ok (.invokevirtual 134, 3) := by decide +kernel
theorem dX4_adjust_45 : decode cX4_adjust 45 = .ok (.aload_n 0, 1) := by decide +kernel
theorem dX4_adjust_46 : decode cX4_adjust 46 = .ok (.invokevirtual 137, 3) := by decide +kernel
theorem dX4_adjust_49 : decode cX4_adjust 49 = .ok (.ireturn, 1) := by decide +kernel
set_option maxRecDepth 20000 in
theorem ggX4_weightTogether_X2_holds : GoodIn wsX4_weightTogether wsX2_holds := goodIn_r _ [7, 8, 23, 24, 25, 26] (by decide +kernel) (by decide +kernel)
set_option maxRecDepth 20000 in
theorem gX4_weightTogether_X2_holds : GoodIn wsX4_weightTogether (wsV RX4 75 RX2 yX2_holds wsX2_holds) := goodIn_app (goodIn_of _ (by decide +kernel)) ggX4_weightTogether_X2_holds
set_option maxRecDepth 20000 in
theorem ggX4_weightTogether_X0_weight : GoodIn wsX4_weightTogether wsX0_weight := goodIn_r _ [13, 14, 27, 28, 29] (by decide +kernel) (by decide +kernel)
set_option maxRecDepth 20000 in
theorem gX4_weightTogether_X0_weight : GoodIn wsX4_weightTogether (wsV RX4 140 RX0 yX0_weight wsX0_weight) := goodIn_app (goodIn_of _ (by decide +kernel)) ggX4_weightTogether_X0_weight
theorem dX4_weightTogether_0 : decode cX4_weightTogether 0 = .ok (.iconst 0, 1) := by decide +kernel
theorem dX4_weightTogether_1 : decode cX4_weightTogether 1 = .ok (.istore_n 1, 1) := by decide +kernel
theorem dX4_weightTogether_2 : decode cX4_weightTogether 2 = .ok (.iconst 0, 1) := by decide +kernel
theorem dX4_weightTogether_3 : decode cX4_weightTogether 3 = .ok (.istore_n 2, 1) := by decide +kernel
theorem dX4_weightTogether_4 : decode cX4_weightTogether 4 = .ok (.iload_n 2, 1) := by decide +kernel
theorem dX4_weightTogether_5 : decode cX4_weightTogether 5 = .ok (.bipush 10, 2) := by decide +kernel
theorem dX4_weightTogether_7 : decode cX4_weightTogether 7 = .ok (.if_icmp .ge 31, 3) := by decide +kernel
theorem dX4_weightTogether_10 : decode cX4_weightTogether 10 = .ok (.aload_n 0, 1) := by decide +kernel
theorem dX4_weightTogether_11 : decode cX4_weightTogether 11 = .ok (.getfield 31, 3) := by decide +kernel
theorem dX4_weightTogether_14 : decode cX4_weightTogether 14 = .ok (.iload_n 2, 1) := by decide +kernel
theorem dX4_weightTogether_15 : decode cX4_weightTogether 15 = .ok (.invokevirtual 75, 3) := by decide +kernel
theorem dX4_weightTogether_18 : decode cX4_weightTogether 18 = .ok (.ifCond .eq 14, 3) := by decide +kernel
theorem dX4_weightTogether_21 : decode cX4_weightTogether 21 = .ok (.iload_n 1, 1) := by decide +kernel
theorem dX4_weightTogether_22 : decode cX4_weightTogether 22 = .ok (.aload_n 0, 1) := by decide +kernel
theorem dX4_weightTogether_23 : decode cX4_weightTogether 23 = .ok (.getfield 24, 3) := by decide +kernel
theorem dX4_weightTogether_26 : decode cX4_weightTogether 26 = .ok (.iload_n 2, 1) := by decide +kernel
theorem dX4_weightTogether_27 : decode cX4_weightTogether 27 = .ok (.invokevirtual 140, 3) := by decide +kernel
theorem dX4_weightTogether_30 : decode cX4_weightTogether 30 = .ok (.iadd, 1) := by decide +kernel
theorem dX4_weightTogether_31 : decode cX4_weightTogether 31 = .ok (.istore_n 1, 1) := by decide +kernel
theorem dX4_weightTogether_32 : decode cX4_weightTogether 32 = .ok (.iinc 2 1, 3) := by decide +kernel
theorem dX4_weightTogether_35 : decode cX4_weightTogether 35 = .ok (.goto (-31), 3) := by decide +kernel
theorem dX4_weightTogether_38 : decode cX4_weightTogether 38 = .ok (.iload_n 1, 1) := by decide +kernel
theorem dX4_weightTogether_39 : decode cX4_weightTogether 39 = .ok (.ireturn, 1) := by decide +kernel
set_option maxRecDepth 20000 in
theorem ggX4_totalByAnswers_X5_size : GoodIn wsX4_totalByAnswers wsX5_size := goodIn_r _ [7, 8, 33, 34, 35] (by decide +kernel) (by decide +kernel)
set_option maxRecDepth 20000 in
theorem gX4_totalByAnswers_X5_size : GoodIn wsX4_totalByAnswers (wsV RX4 93 RX5 yX5_size wsX5_size) := goodIn_app (goodIn_of _ (by decide +kernel)) ggX4_totalByAnswers_X5_size
set_option maxRecDepth 20000 in
theorem ggX4_totalByAnswers_X5_value : GoodIn wsX4_totalByAnswers wsX5_value := goodIn_r _ [12, 13, 33, 34, 35] (by decide +kernel) (by decide +kernel)
set_option maxRecDepth 20000 in
theorem gX4_totalByAnswers_X5_value : GoodIn wsX4_totalByAnswers (wsV RX4 79 RX5 yX5_value wsX5_value) := goodIn_app (goodIn_of _ (by decide +kernel)) ggX4_totalByAnswers_X5_value
set_option maxRecDepth 20000 in
theorem ggX4_totalByAnswers_X5_key : GoodIn wsX4_totalByAnswers wsX5_key := goodIn_r _ [17, 18, 33, 34, 35] (by decide +kernel) (by decide +kernel)
set_option maxRecDepth 20000 in
theorem gX4_totalByAnswers_X5_key : GoodIn wsX4_totalByAnswers (wsV RX4 71 RX5 yX5_key wsX5_key) := goodIn_app (goodIn_of _ (by decide +kernel)) ggX4_totalByAnswers_X5_key
set_option maxRecDepth 20000 in
theorem ggX4_totalByAnswers_X0_sum : GoodIn wsX4_totalByAnswers wsX0_sum := goodIn_r _ [23, 24, 36, 37, 38] (by decide +kernel) (by decide +kernel)
set_option maxRecDepth 20000 in
theorem gX4_totalByAnswers_X0_sum : GoodIn wsX4_totalByAnswers (wsV RX4 122 RX0 yX0_sum wsX0_sum) := goodIn_app (goodIn_of _ (by decide +kernel)) ggX4_totalByAnswers_X0_sum
theorem dX4_totalByAnswers_0 : decode cX4_totalByAnswers 0 = .ok (.iconst 0, 1) := by decide +kernel
theorem dX4_totalByAnswers_1 : decode cX4_totalByAnswers 1 = .ok (.istore_n 1, 1) := by decide +kernel
theorem dX4_totalByAnswers_2 : decode cX4_totalByAnswers 2 = .ok (.iconst 0, 1) := by decide +kernel
theorem dX4_totalByAnswers_3 : decode cX4_totalByAnswers 3 = .ok (.istore_n 2, 1) := by decide +kernel
theorem dX4_totalByAnswers_4 : decode cX4_totalByAnswers 4 = .ok (.iload_n 2, 1) := by decide +kernel
theorem dX4_totalByAnswers_5 : decode cX4_totalByAnswers 5 = .ok (.aload_n 0, 1) := by decide +kernel
theorem dX4_totalByAnswers_6 : decode cX4_totalByAnswers 6 = .ok (.getfield 12, 3) := by decide +kernel
theorem dX4_totalByAnswers_9 : decode cX4_totalByAnswers 9 = .ok (.invokevirtual 93, 3) := by decide +kernel
theorem dX4_totalByAnswers_12 : decode cX4_totalByAnswers 12 = .ok (.if_icmp .ge 36, 3) := by decide +kernel
theorem dX4_totalByAnswers_15 : decode cX4_totalByAnswers 15 = .ok (.iload_n 1, 1) := by decide +kernel
theorem dX4_totalByAnswers_16 : decode cX4_totalByAnswers 16 = .ok (.aload_n 0, 1) := by decide +kernel
theorem dX4_totalByAnswers_17 : decode cX4_totalByAnswers 17 = .ok (.getfield 12, 3) := by decide +kernel
theorem dX4_totalByAnswers_20 : decode cX4_totalByAnswers 20 = .ok (.iload_n 2, 1) := by decide +kernel
theorem dX4_totalByAnswers_21 : decode cX4_totalByAnswers 21 = .ok (.invokevirtual 79, 3) := by decide +kernel
theorem dX4_totalByAnswers_24 : decode cX4_totalByAnswers 24 = .ok (.aload_n 0, 1) := by decide +kernel
theorem dX4_totalByAnswers_25 : decode cX4_totalByAnswers 25 = .ok (.getfield 24, 3) := by decide +kernel
theorem dX4_totalByAnswers_28 : decode cX4_totalByAnswers 28 = .ok (.aload_n 0, 1) := by decide +kernel
theorem dX4_totalByAnswers_29 : decode cX4_totalByAnswers 29 = .ok (.getfield 12, 3) := by decide +kernel
theorem dX4_totalByAnswers_32 : decode cX4_totalByAnswers 32 = .ok (.iload_n 2, 1) := by decide +kernel
theorem dX4_totalByAnswers_33 : decode cX4_totalByAnswers 33 = .ok (.invokevirtual 71, 3) := by decide +kernel
theorem dX4_totalByAnswers_36 : decode cX4_totalByAnswers 36 = .ok (.invokevirtual 122, 3) := by decide +kernel
theorem dX4_totalByAnswers_39 : decode cX4_totalByAnswers 39 = .ok (.imul, 1) := by decide +kernel
theorem dX4_totalByAnswers_40 : decode cX4_totalByAnswers 40 = .ok (.iadd, 1) := by decide +kernel
theorem dX4_totalByAnswers_41 : decode cX4_totalByAnswers 41 = .ok (.istore_n 1, 1) := by decide +kernel
theorem dX4_totalByAnswers_42 : decode cX4_totalByAnswers 42 = .ok (.iinc 2 1, 3) := by decide +kernel
theorem dX4_totalByAnswers_45 : decode cX4_totalByAnswers 45 = .ok (.goto (-41), 3) := by decide +kernel
theorem dX4_totalByAnswers_48 : decode cX4_totalByAnswers 48 = .ok (.iload_n 1, 1) := by decide +kernel
theorem dX4_totalByAnswers_49 : decode cX4_totalByAnswers 49 = .ok (.ireturn, 1) := by decide +kernel
set_option maxRecDepth 20000 in
theorem ggX4_totalByRows_X5_size : GoodIn wsX4_totalByRows wsX5_size := goodIn_r _ [7, 8, 33, 34, 35] (by decide +kernel) (by decide +kernel)
set_option maxRecDepth 20000 in
theorem gX4_totalByRows_X5_size : GoodIn wsX4_totalByRows (wsV RX4 93 RX5 yX5_size wsX5_size) := goodIn_app (goodIn_of _ (by decide +kernel)) ggX4_totalByRows_X5_size
set_option maxRecDepth 20000 in
theorem ggX4_totalByRows_X5_key : GoodIn wsX4_totalByRows wsX5_key := goodIn_r _ [12, 13, 33, 34, 35] (by decide +kernel) (by decide +kernel)
set_option maxRecDepth 20000 in
theorem gX4_totalByRows_X5_key : GoodIn wsX4_totalByRows (wsV RX4 71 RX5 yX5_key wsX5_key) := goodIn_app (goodIn_of _ (by decide +kernel)) ggX4_totalByRows_X5_key
set_option maxRecDepth 20000 in
theorem ggX4_totalByRows_X5_value : GoodIn wsX4_totalByRows wsX5_value := goodIn_r _ [17, 18, 33, 34, 35] (by decide +kernel) (by decide +kernel)
set_option maxRecDepth 20000 in
theorem gX4_totalByRows_X5_value : GoodIn wsX4_totalByRows (wsV RX4 79 RX5 yX5_value wsX5_value) := goodIn_app (goodIn_of _ (by decide +kernel)) ggX4_totalByRows_X5_value
set_option maxRecDepth 20000 in
theorem ggX4_totalByRows_X4_isInBand : GoodIn wsX4_totalByRows wsX4_isInBand := goodIn_r _ [23, 24, 25, 26, 27, 28, 29, 30, 31, 32] (by decide +kernel) (by decide +kernel)
set_option maxRecDepth 20000 in
theorem gX4_totalByRows_X4_isInBand : GoodIn wsX4_totalByRows (wsV RX4 82 RX4 yX4_isInBand wsX4_isInBand) := goodIn_app (goodIn_of _ (by decide +kernel)) ggX4_totalByRows_X4_isInBand
theorem dX4_totalByRows_0 : decode cX4_totalByRows 0 = .ok (.iconst 0, 1) := by decide +kernel
theorem dX4_totalByRows_1 : decode cX4_totalByRows 1 = .ok (.istore_n 1, 1) := by decide +kernel
theorem dX4_totalByRows_2 : decode cX4_totalByRows 2 = .ok (.iconst 0, 1) := by decide +kernel
theorem dX4_totalByRows_3 : decode cX4_totalByRows 3 = .ok (.istore_n 2, 1) := by decide +kernel
theorem dX4_totalByRows_4 : decode cX4_totalByRows 4 = .ok (.iload_n 2, 1) := by decide +kernel
theorem dX4_totalByRows_5 : decode cX4_totalByRows 5 = .ok (.aload_n 0, 1) := by decide +kernel
theorem dX4_totalByRows_6 : decode cX4_totalByRows 6 = .ok (.getfield 12, 3) := by decide +kernel
theorem dX4_totalByRows_9 : decode cX4_totalByRows 9 = .ok (.invokevirtual 93, 3) := by decide +kernel
theorem dX4_totalByRows_12 : decode cX4_totalByRows 12 = .ok (.if_icmp .ge 82, 3) := by decide +kernel
theorem dX4_totalByRows_15 : decode cX4_totalByRows 15 = .ok (.iconst 0, 1) := by decide +kernel
theorem dX4_totalByRows_16 : decode cX4_totalByRows 16 = .ok (.istore_n 3, 1) := by decide +kernel
theorem dX4_totalByRows_17 : decode cX4_totalByRows 17 = .ok (.iload_n 3, 1) := by decide +kernel
theorem dX4_totalByRows_18 : decode cX4_totalByRows 18 = .ok (.aload_n 0, 1) := by decide +kernel
theorem dX4_totalByRows_19 : decode cX4_totalByRows 19 = .ok (.getfield 18, 3) := by decide +kernel
theorem dX4_totalByRows_22 : decode cX4_totalByRows 22 = .ok (.invokevirtual 93, 3) := by decide +kernel
theorem dX4_totalByRows_25 : decode cX4_totalByRows 25 = .ok (.if_icmp .ge 63, 3) := by decide +kernel
theorem dX4_totalByRows_28 : decode cX4_totalByRows 28 = .ok (.aload_n 0, 1) := by decide +kernel
theorem dX4_totalByRows_29 : decode cX4_totalByRows 29 = .ok (.getfield 18, 3) := by decide +kernel
theorem dX4_totalByRows_32 : decode cX4_totalByRows 32 = .ok (.iload_n 3, 1) := by decide +kernel
theorem dX4_totalByRows_33 : decode cX4_totalByRows 33 = .ok (.invokevirtual 71, 3) := by decide +kernel
theorem dX4_totalByRows_36 : decode cX4_totalByRows 36 = .ok (.aload_n 0, 1) := by decide +kernel
theorem dX4_totalByRows_37 : decode cX4_totalByRows 37 = .ok (.getfield 12, 3) := by decide +kernel
theorem dX4_totalByRows_40 : decode cX4_totalByRows 40 = .ok (.iload_n 2, 1) := by decide +kernel
theorem dX4_totalByRows_41 : decode cX4_totalByRows 41 = .ok (.invokevirtual 71, 3) := by decide +kernel
theorem dX4_totalByRows_44 : decode cX4_totalByRows 44 = .ok (.if_icmp .ne 38, 3) := by decide +kernel
theorem dX4_totalByRows_47 : decode cX4_totalByRows 47 = .ok (.aload_n 0, 1) := by decide +kernel
theorem dX4_totalByRows_48 : decode cX4_totalByRows 48 = .ok (.aload_n 0, 1) := by decide +kernel
theorem dX4_totalByRows_49 : decode cX4_totalByRows 49 = .ok (.getfield 18, 3) := by decide +kernel
theorem dX4_totalByRows_52 : decode cX4_totalByRows 52 = .ok (.iload_n 3, 1) := by decide +kernel
theorem dX4_totalByRows_53 : decode cX4_totalByRows 53 = .ok (.invokevirtual 79, 3) := by decide +kernel
theorem dX4_totalByRows_56 : decode cX4_totalByRows 56 = .ok (.invokevirtual 82, 3) := by decide +kernel
theorem dX4_totalByRows_59 : decode cX4_totalByRows 59 = .ok (.ifCond .eq 23, 3) := by decide +kernel
theorem dX4_totalByRows_62 : decode cX4_totalByRows 62 = .ok (.iload_n 1, 1) := by decide +kernel
theorem dX4_totalByRows_63 : decode cX4_totalByRows 63 = .ok (.aload_n 0, 1) := by decide +kernel
theorem dX4_totalByRows_64 : decode cX4_totalByRows 64 = .ok (.getfield 12, 3) := by decide +kernel
theorem dX4_totalByRows_67 : decode cX4_totalByRows 67 = .ok (.iload_n 2, 1) := by decide +kernel
theorem dX4_totalByRows_68 : decode cX4_totalByRows 68 = .ok (.invokevirtual 79, 3) := by decide +kernel
theorem dX4_totalByRows_71 : decode cX4_totalByRows 71 = .ok (.aload_n 0, 1) := by decide +kernel
theorem dX4_totalByRows_72 : decode cX4_totalByRows 72 = .ok (.getfield 18, 3) := by decide +kernel
theorem dX4_totalByRows_75 : decode cX4_totalByRows 75 = .ok (.iload_n 3, 1) := by decide +kernel
theorem dX4_totalByRows_76 : decode cX4_totalByRows 76 = .ok (.invokevirtual 79, 3) := by decide +kernel
theorem dX4_totalByRows_79 : decode cX4_totalByRows 79 = .ok (.imul, 1) := by decide +kernel
theorem dX4_totalByRows_80 : decode cX4_totalByRows 80 = .ok (.iadd, 1) := by decide +kernel
theorem dX4_totalByRows_81 : decode cX4_totalByRows 81 = .ok (.istore_n 1, 1) := by decide +kernel
theorem dX4_totalByRows_82 : decode cX4_totalByRows 82 = .ok (.iinc 3 1, 3) := by decide +kernel
theorem dX4_totalByRows_85 : decode cX4_totalByRows 85 = .ok (.goto (-68), 3) := by decide +kernel
theorem dX4_totalByRows_88 : decode cX4_totalByRows 88 = .ok (.iinc 2 1, 3) := by decide +kernel
theorem dX4_totalByRows_91 : decode cX4_totalByRows 91 = .ok (.goto (-87), 3) := by decide +kernel
theorem dX4_totalByRows_94 : decode cX4_totalByRows 94 = .ok (.iload_n 1, 1) := by decide +kernel
theorem dX4_totalByRows_95 : decode cX4_totalByRows 95 = .ok (.ireturn, 1) := by decide +kernel
set_option maxRecDepth 20000 in
theorem ggX4_lookUp_X2_holds : GoodIn wsX4_lookUp wsX2_holds := goodIn_r _ [10, 11, 64, 65, 66, 67] (by decide +kernel) (by decide +kernel)
set_option maxRecDepth 20000 in
theorem gX4_lookUp_X2_holds : GoodIn wsX4_lookUp (wsV RX4 75 RX2 yX2_holds wsX2_holds) := goodIn_app (goodIn_of _ (by decide +kernel)) ggX4_lookUp_X2_holds
set_option maxRecDepth 20000 in
theorem ggX4_lookUp_X2_touch : GoodIn wsX4_lookUp wsX2_touch := goodIn_r _ [15, 16, 11, 17, 64, 65, 66, 67] (by decide +kernel) (by decide +kernel)
set_option maxRecDepth 20000 in
theorem gX4_lookUp_X2_touch : GoodIn wsX4_lookUp (wsV RX4 143 RX2 yX2_touch wsX2_touch) := goodIn_app (goodIn_of _ (by decide +kernel)) ggX4_lookUp_X2_touch
set_option maxRecDepth 20000 in
theorem ggX4_lookUp_X5_size : GoodIn wsX4_lookUp wsX5_size := goodIn_r _ [22, 23, 68, 69, 70] (by decide +kernel) (by decide +kernel)
set_option maxRecDepth 20000 in
theorem gX4_lookUp_X5_size : GoodIn wsX4_lookUp (wsV RX4 93 RX5 yX5_size wsX5_size) := goodIn_app (goodIn_of _ (by decide +kernel)) ggX4_lookUp_X5_size
set_option maxRecDepth 20000 in
theorem ggX4_lookUp_X0_weight : GoodIn wsX4_lookUp wsX0_weight := goodIn_r _ [28, 29, 71, 72, 73] (by decide +kernel) (by decide +kernel)
set_option maxRecDepth 20000 in
theorem gX4_lookUp_X0_weight : GoodIn wsX4_lookUp (wsV RX4 140 RX0 yX0_weight wsX0_weight) := goodIn_app (goodIn_of _ (by decide +kernel)) ggX4_lookUp_X0_weight
set_option maxRecDepth 20000 in
theorem ggX4_lookUp_X2_take : GoodIn wsX4_lookUp wsX2_take := goodIn_r _ [33, 16, 11, 34, 17, 64, 65, 66, 67] (by decide +kernel) (by decide +kernel)
set_option maxRecDepth 20000 in
theorem gX4_lookUp_X2_take : GoodIn wsX4_lookUp (wsV RX4 146 RX2 yX2_take wsX2_take) := goodIn_app (goodIn_of _ (by decide +kernel)) ggX4_lookUp_X2_take
set_option maxRecDepth 20000 in
theorem ggX4_lookUp_X4_makeRoom : GoodIn wsX4_lookUp wsX4_makeRoom := goodIn_r _ [39, 5, 1, 4, 2, 40, 41, 42, 38, 43, 6, 7, 8, 9, 10, 11, 24, 25, 26, 27, 28, 29, 44, 45, 46, 47, 48, 49, 50, 51, 34, 17, 52, 53, 54, 55, 56, 57, 58, 59, 60, 61, 62, 63, 64, 65, 66, 67, 71, 72, 73] (by decide +kernel) (by decide +kernel)
set_option maxRecDepth 20000 in
theorem gX4_lookUp_X4_makeRoom : GoodIn wsX4_lookUp (wsV RX4 131 RX4 yX4_makeRoom wsX4_makeRoom) := goodIn_app (goodIn_of _ (by decide +kernel)) ggX4_lookUp_X4_makeRoom
theorem dX4_lookUp_0 : decode cX4_lookUp 0 = .ok (.aload_n 0, 1) := by decide +kernel
theorem dX4_lookUp_1 : decode cX4_lookUp 1 = .ok (.getfield 31, 3) := by decide +kernel
theorem dX4_lookUp_4 : decode cX4_lookUp 4 = .ok (.iload_n 1, 1) := by decide +kernel
theorem dX4_lookUp_5 : decode cX4_lookUp 5 = .ok (.invokevirtual 75, 3) := by decide +kernel
theorem dX4_lookUp_8 : decode cX4_lookUp 8 = .ok (.ifCond .eq 32, 3) := by decide +kernel
theorem dX4_lookUp_11 : decode cX4_lookUp 11 = .ok (.aload_n 0, 1) := by decide +kernel
theorem dX4_lookUp_12 : decode cX4_lookUp 12 = .ok (.getfield 47, 3) := by decide +kernel
theorem dX4_lookUp_15 : decode cX4_lookUp 15 = .ok (.iconst 0, 1) := by decide +kernel
theorem dX4_lookUp_16 : decode cX4_lookUp 16 = .ok (.dup2, 1) := by decide +kernel
theorem dX4_lookUp_17 : decode cX4_lookUp 17 = .ok (.iaload, 1) := by decide +kernel
theorem dX4_lookUp_18 : decode cX4_lookUp 18 = .ok (.iconst 1, 1) := by decide +kernel
theorem dX4_lookUp_19 : decode cX4_lookUp 19 = .ok (.iadd, 1) := by decide +kernel
theorem dX4_lookUp_20 : decode cX4_lookUp 20 = .ok (.iastore, 1) := by decide +kernel
theorem dX4_lookUp_21 : decode cX4_lookUp 21 = .ok (.aload_n 0, 1) := by decide +kernel
theorem dX4_lookUp_22 : decode cX4_lookUp 22 = .ok (.getfield 47, 3) := by decide +kernel
theorem dX4_lookUp_25 : decode cX4_lookUp 25 = .ok (.iconst 2, 1) := by decide +kernel
theorem dX4_lookUp_26 : decode cX4_lookUp 26 = .ok (.dup2, 1) := by decide +kernel
theorem dX4_lookUp_27 : decode cX4_lookUp 27 = .ok (.iaload, 1) := by decide +kernel
theorem dX4_lookUp_28 : decode cX4_lookUp 28 = .ok (.iconst 1, 1) := by decide +kernel
theorem dX4_lookUp_29 : decode cX4_lookUp 29 = .ok (.iadd, 1) := by decide +kernel
theorem dX4_lookUp_30 : decode cX4_lookUp 30 = .ok (.iastore, 1) := by decide +kernel
theorem dX4_lookUp_31 : decode cX4_lookUp 31 = .ok (.aload_n 0, 1) := by decide +kernel
theorem dX4_lookUp_32 : decode cX4_lookUp 32 = .ok (.getfield 31, 3) := by decide +kernel
theorem dX4_lookUp_35 : decode cX4_lookUp 35 = .ok (.iload_n 1, 1) := by decide +kernel
theorem dX4_lookUp_36 : decode cX4_lookUp 36 = .ok (.invokevirtual 143, 3) := by decide +kernel
theorem dX4_lookUp_39 : decode cX4_lookUp 39 = .ok (.return_, 1) := by decide +kernel
theorem dX4_lookUp_40 : decode cX4_lookUp 40 = .ok (.aload_n 0, 1) := by decide +kernel
theorem dX4_lookUp_41 : decode cX4_lookUp 41 = .ok (.getfield 47, 3) := by decide +kernel
theorem dX4_lookUp_44 : decode cX4_lookUp 44 = .ok (.iconst 1, 1) := by decide +kernel
theorem dX4_lookUp_45 : decode cX4_lookUp 45 = .ok (.dup2, 1) := by decide +kernel
theorem dX4_lookUp_46 : decode cX4_lookUp 46 = .ok (.iaload, 1) := by decide +kernel
theorem dX4_lookUp_47 : decode cX4_lookUp 47 = .ok (.iconst 1, 1) := by decide +kernel
theorem dX4_lookUp_48 : decode cX4_lookUp 48 = .ok (.iadd, 1) := by decide +kernel
theorem dX4_lookUp_49 : decode cX4_lookUp 49 = .ok (.iastore, 1) := by decide +kernel
theorem dX4_lookUp_50 : decode cX4_lookUp 50 = .ok (.aload_n 0, 1) := by decide +kernel
theorem dX4_lookUp_51 : decode cX4_lookUp 51 = .ok (.getfield 47, 3) := by decide +kernel
theorem dX4_lookUp_54 : decode cX4_lookUp 54 = .ok (.iconst 2, 1) := by decide +kernel
theorem dX4_lookUp_55 : decode cX4_lookUp 55 = .ok (.dup2, 1) := by decide +kernel
theorem dX4_lookUp_56 : decode cX4_lookUp 56 = .ok (.iaload, 1) := by decide +kernel
theorem dX4_lookUp_57 : decode cX4_lookUp 57 = .ok (.iconst 2, 1) := by decide +kernel
theorem dX4_lookUp_58 : decode cX4_lookUp 58 = .ok (.aload_n 0, 1) := by decide +kernel
theorem dX4_lookUp_59 : decode cX4_lookUp 59 = .ok (.getfield 18, 3) := by decide +kernel
theorem dX4_lookUp_62 : decode cX4_lookUp 62 = .ok (.invokevirtual 93, 3) := by decide +kernel
theorem dX4_lookUp_65 : decode cX4_lookUp 65 = .ok (.iadd, 1) := by decide +kernel
theorem dX4_lookUp_66 : decode cX4_lookUp 66 = .ok (.iadd, 1) := by decide +kernel
theorem dX4_lookUp_67 : decode cX4_lookUp 67 = .ok (.iastore, 1) := by decide +kernel
theorem dX4_lookUp_68 : decode cX4_lookUp 68 = .ok (.aload_n 0, 1) := by decide +kernel
theorem dX4_lookUp_69 : decode cX4_lookUp 69 = .ok (.getfield 24, 3) := by decide +kernel
theorem dX4_lookUp_72 : decode cX4_lookUp 72 = .ok (.iload_n 1, 1) := by decide +kernel
theorem dX4_lookUp_73 : decode cX4_lookUp 73 = .ok (.invokevirtual 140, 3) := by decide +kernel
theorem dX4_lookUp_76 : decode cX4_lookUp 76 = .ok (.aload_n 0, 1) := by decide +kernel
theorem dX4_lookUp_77 : decode cX4_lookUp 77 = .ok (.getfield 44, 3) := by decide +kernel
theorem dX4_lookUp_80 : decode cX4_lookUp 80 = .ok (.iconst 0, 1) := by decide +kernel
theorem dX4_lookUp_81 : decode cX4_lookUp 81 = .ok (.iaload, 1) := by decide +kernel
theorem dX4_lookUp_82 : decode cX4_lookUp 82 = .ok (.if_icmp .le 14, 3) := by decide +kernel
theorem dX4_lookUp_85 : decode cX4_lookUp 85 = .ok (.aload_n 0, 1) := by decide +kernel
theorem dX4_lookUp_86 : decode cX4_lookUp 86 = .ok (.getfield 47, 3) := by decide +kernel
theorem dX4_lookUp_89 : decode cX4_lookUp 89 = .ok (.iconst 5, 1) := by decide +kernel
theorem dX4_lookUp_90 : decode cX4_lookUp 90 = .ok (.dup2, 1) := by decide +kernel
theorem dX4_lookUp_91 : decode cX4_lookUp 91 = .ok (.iaload, 1) := by decide +kernel
theorem dX4_lookUp_92 : decode cX4_lookUp 92 = .ok (.iconst 1, 1) := by decide +kernel
theorem dX4_lookUp_93 : decode cX4_lookUp 93 = .ok (.iadd, 1) := by decide +kernel
theorem dX4_lookUp_94 : decode cX4_lookUp 94 = .ok (.iastore, 1) := by decide +kernel
theorem dX4_lookUp_95 : decode cX4_lookUp 95 = .ok (.return_, 1) := by decide +kernel
theorem dX4_lookUp_96 : decode cX4_lookUp 96 = .ok (.aload_n 0, 1) := by decide +kernel
theorem dX4_lookUp_97 : decode cX4_lookUp 97 = .ok (.getfield 31, 3) := by decide +kernel
theorem dX4_lookUp_100 : decode cX4_lookUp 100 = .ok (.iload_n 1, 1) := by decide +kernel
theorem dX4_lookUp_101 : decode cX4_lookUp 101 = .ok (.invokevirtual 146, 3) := by decide +kernel
theorem dX4_lookUp_104 : decode cX4_lookUp 104 = .ok (.aload_n 0, 1) := by decide +kernel
theorem dX4_lookUp_105 : decode cX4_lookUp 105 = .ok (.iload_n 1, 1) := by decide +kernel
theorem dX4_lookUp_106 : decode cX4_lookUp 106 = .ok (.invokevirtual 131, 3) := by decide +kernel
theorem dX4_lookUp_109 : decode cX4_lookUp 109 = .ok (.pop, 1) := by decide +kernel
theorem dX4_lookUp_110 : decode cX4_lookUp 110 = .ok (.return_, 1) := by decide +kernel
set_option maxRecDepth 20000 in
theorem ggX4_makeRoom_X4_weightTogether : GoodIn wsX4_makeRoom wsX4_weightTogether := goodIn_r _ [9, 2, 3, 10, 11, 12, 13, 14, 15, 16, 17, 18, 19, 20, 21, 36, 37, 38, 39, 40, 41, 42, 43, 44, 45, 46, 47, 48, 49, 50] (by decide +kernel) (by decide +kernel)
set_option maxRecDepth 20000 in
theorem gX4_makeRoom_X4_weightTogether : GoodIn wsX4_makeRoom (wsV RX4 149 RX4 yX4_weightTogether wsX4_weightTogether) := goodIn_app (goodIn_of _ (by decide +kernel)) ggX4_makeRoom_X4_weightTogether
set_option maxRecDepth 20000 in
theorem ggX4_makeRoom_X2_firstOut : GoodIn wsX4_makeRoom wsX2_firstOut := goodIn_r _ [25, 15, 26, 27, 28, 13, 29, 30, 31, 44, 45, 46, 47] (by decide +kernel) (by decide +kernel)
set_option maxRecDepth 20000 in
theorem gX4_makeRoom_X2_firstOut : GoodIn wsX4_makeRoom (wsV RX4 152 RX2 yX2_firstOut wsX2_firstOut) := goodIn_app (goodIn_of _ (by decide +kernel)) ggX4_makeRoom_X2_firstOut
set_option maxRecDepth 20000 in
theorem ggX4_makeRoom_X0_weight : GoodIn wsX4_makeRoom wsX0_weight := goodIn_r _ [20, 21, 48, 49, 50] (by decide +kernel) (by decide +kernel)
set_option maxRecDepth 20000 in
theorem gX4_makeRoom_X0_weight : GoodIn wsX4_makeRoom (wsV RX4 140 RX0 yX0_weight wsX0_weight) := goodIn_app (goodIn_of _ (by decide +kernel)) ggX4_makeRoom_X0_weight
set_option maxRecDepth 20000 in
theorem ggX4_makeRoom_X2_lose : GoodIn wsX4_makeRoom wsX2_lose := goodIn_r _ [35, 15, 44, 45, 46, 47] (by decide +kernel) (by decide +kernel)
set_option maxRecDepth 20000 in
theorem gX4_makeRoom_X2_lose : GoodIn wsX4_makeRoom (wsV RX4 156 RX2 yX2_lose wsX2_lose) := goodIn_app (goodIn_of _ (by decide +kernel)) ggX4_makeRoom_X2_lose
theorem dX4_makeRoom_0 : decode cX4_makeRoom 0 = .ok (.iconst 0, 1) := by decide +kernel
theorem dX4_makeRoom_1 : decode cX4_makeRoom 1 = .ok (.istore_n 2, 1) := by decide +kernel
theorem dX4_makeRoom_2 : decode cX4_makeRoom 2 = .ok (.aload_n 0, 1) := by decide +kernel
theorem dX4_makeRoom_3 : decode cX4_makeRoom 3 = .ok (.invokevirtual 149, 3) := by decide +kernel
theorem dX4_makeRoom_6 : decode cX4_makeRoom 6 = .ok (.istore_n 3, 1) := by decide +kernel
theorem dX4_makeRoom_7 : decode cX4_makeRoom 7 = .ok (.iload_n 2, 1) := by decide +kernel
theorem dX4_makeRoom_8 : decode cX4_makeRoom 8 = .ok (.bipush 10, 2) := by decide +kernel
theorem dX4_makeRoom_10 : decode cX4_makeRoom 10 = .ok (.if_icmp .ge 56, 3) := by decide +kernel
theorem dX4_makeRoom_13 : decode cX4_makeRoom 13 = .ok (.iload_n 3, 1) := by decide +kernel
theorem dX4_makeRoom_14 : decode cX4_makeRoom 14 = .ok (.aload_n 0, 1) := by decide +kernel
theorem dX4_makeRoom_15 : decode cX4_makeRoom 15 = .ok (.getfield 44, 3) := by decide +kernel
theorem dX4_makeRoom_18 : decode cX4_makeRoom 18 = .ok (.iconst 0, 1) := by decide +kernel
theorem dX4_makeRoom_19 : decode cX4_makeRoom 19 = .ok (.iaload, 1) := by decide +kernel
theorem dX4_makeRoom_20 : decode cX4_makeRoom 20 = .ok (.if_icmp .le 46, 3) := by decide +kernel
theorem dX4_makeRoom_23 : decode cX4_makeRoom 23 = .ok (.aload_n 0, 1) := by decide +kernel
theorem dX4_makeRoom_24 : decode cX4_makeRoom 24 = .ok (.getfield 31, 3) := by decide +kernel
theorem dX4_makeRoom_27 : decode cX4_makeRoom 27 = .ok (.aload_n 0, 1) := by decide +kernel
theorem dX4_makeRoom_28 : decode cX4_makeRoom 28 = .ok (.getfield 44, 3) := by decide +kernel
theorem dX4_makeRoom_31 : decode cX4_makeRoom 31 = .ok (.iconst 1, 1) := by decide +kernel
theorem dX4_makeRoom_32 : decode cX4_makeRoom 32 = .ok (.iaload, 1) := by decide +kernel
theorem dX4_makeRoom_33 : decode cX4_makeRoom 33 = .ok (.iload_n 1, 1) := by decide +kernel
theorem dX4_makeRoom_34 : decode cX4_makeRoom 34 = .ok (.invokevirtual 152, 3) := by decide +kernel
theorem dX4_makeRoom_37 : decode cX4_makeRoom 37 = .ok (.istore 4, 2) := by decide +kernel
theorem dX4_makeRoom_39 : decode cX4_makeRoom 39 = .ok (.iload_n 3, 1) := by decide +kernel
theorem dX4_makeRoom_40 : decode cX4_makeRoom 40 = .ok (.aload_n 0, 1) := by decide +kernel
theorem dX4_makeRoom_41 : decode cX4_makeRoom 41 = .ok (.getfield 24, 3) := by decide +kernel
theorem dX4_makeRoom_44 : decode cX4_makeRoom 44 = .ok (.iload 4, 2) := by decide +kernel
theorem dX4_makeRoom_46 : decode cX4_makeRoom 46 = .ok (.invokevirtual 140, 3) := by decide +kernel
theorem dX4_makeRoom_49 : decode cX4_makeRoom 49 = .ok (.isub, 1) := by decide +kernel
theorem dX4_makeRoom_50 : decode cX4_makeRoom 50 = .ok (.istore_n 3, 1) := by decide +kernel
theorem dX4_makeRoom_51 : decode cX4_makeRoom 51 = .ok (.aload_n 0, 1) := by decide +kernel
theorem dX4_makeRoom_52 : decode cX4_makeRoom 52 = .ok (.getfield 31, 3) := by decide +kernel
theorem dX4_makeRoom_55 : decode cX4_makeRoom 55 = .ok (.iload 4, 2) := by decide +kernel
theorem dX4_makeRoom_57 : decode cX4_makeRoom 57 = .ok (.invokevirtual 156, 3) := by decide +kernel
theorem dX4_makeRoom_60 : decode cX4_makeRoom 60 = .ok (.iinc 2 1, 3) := by decide +kernel
theorem dX4_makeRoom_63 : decode cX4_makeRoom 63 = .ok (.goto (-56), 3) := by decide +kernel
theorem dX4_makeRoom_66 : decode cX4_makeRoom 66 = .ok (.aload_n 0, 1) := by decide +kernel
theorem dX4_makeRoom_67 : decode cX4_makeRoom 67 = .ok (.getfield 47, 3) := by decide +kernel
theorem dX4_makeRoom_70 : decode cX4_makeRoom 70 = .ok (.iconst 3, 1) := by decide +kernel
theorem dX4_makeRoom_71 : decode cX4_makeRoom 71 = .ok (.dup2, 1) := by decide +kernel
theorem dX4_makeRoom_72 : decode cX4_makeRoom 72 = .ok (.iaload, 1) := by decide +kernel
theorem dX4_makeRoom_73 : decode cX4_makeRoom 73 = .ok (.iload_n 2, 1) := by decide +kernel
theorem dX4_makeRoom_74 : decode cX4_makeRoom 74 = .ok (.iadd, 1) := by decide +kernel
theorem dX4_makeRoom_75 : decode cX4_makeRoom 75 = .ok (.iastore, 1) := by decide +kernel
theorem dX4_makeRoom_76 : decode cX4_makeRoom 76 = .ok (.iload_n 2, 1) := by decide +kernel
theorem dX4_makeRoom_77 : decode cX4_makeRoom 77 = .ok (.ireturn, 1) := by decide +kernel
set_option maxRecDepth 20000 in
theorem ggX4_keepTrue_X4_findAnswers : GoodIn wsX4_keepTrue wsX4_findAnswers := goodIn_r _ [6, 7, 8, 1, 9, 10, 11, 12, 13, 14, 15, 16, 17, 18, 19, 20, 21, 22, 23, 24, 25, 26, 27, 28, 29, 30, 31, 32, 61, 62, 63, 64, 65, 66, 67, 68, 69, 70, 71, 72, 73, 74] (by decide +kernel) (by decide +kernel)
set_option maxRecDepth 20000 in
theorem gX4_keepTrue_X4_findAnswers : GoodIn wsX4_keepTrue (wsV RX4 134 RX4 yX4_findAnswers wsX4_findAnswers) := goodIn_app (goodIn_of _ (by decide +kernel)) ggX4_keepTrue_X4_findAnswers
set_option maxRecDepth 20000 in
theorem ggX4_keepTrue_X4_throwAllOut : GoodIn wsX4_keepTrue wsX4_throwAllOut := goodIn_r _ [36, 37, 38, 39, 40, 41, 42, 43, 44, 45, 46, 47, 48, 61, 62, 63, 64, 65, 66, 67, 68, 75, 76, 77, 78] (by decide +kernel) (by decide +kernel)
set_option maxRecDepth 20000 in
theorem gX4_keepTrue_X4_throwAllOut : GoodIn wsX4_keepTrue (wsV RX4 137 RX4 yX4_throwAllOut wsX4_throwAllOut) := goodIn_app (goodIn_of _ (by decide +kernel)) ggX4_keepTrue_X4_throwAllOut
set_option maxRecDepth 20000 in
theorem ggX4_keepTrue_X4_keepAnswerTrue : GoodIn wsX4_keepTrue wsX4_keepAnswerTrue := goodIn_r _ [52, 37, 1, 38, 53, 54, 55, 42, 56, 44, 57, 58, 59, 60, 61, 62, 63, 64, 65, 66, 67, 68, 75, 76, 77, 78] (by decide +kernel) (by decide +kernel)
set_option maxRecDepth 20000 in
theorem gX4_keepTrue_X4_keepAnswerTrue : GoodIn wsX4_keepTrue (wsV RX4 159 RX4 yX4_keepAnswerTrue wsX4_keepAnswerTrue) := goodIn_app (goodIn_of _ (by decide +kernel)) ggX4_keepTrue_X4_keepAnswerTrue
theorem dX4_keepTrue_0 : decode cX4_keepTrue 0 = .ok (.aload_n 0, 1) := by decide +kernel
theorem dX4_keepTrue_1 : decode cX4_keepTrue 1 = .ok (.invokevirtual 134, 3) := by decide +kernel
theorem dX4_keepTrue_4 : decode cX4_keepTrue 4 = .ok (.aload_n 0, 1) := by decide +kernel
theorem dX4_keepTrue_5 : decode cX4_keepTrue 5 = .ok (.getfield 44, 3) := by decide +kernel
theorem dX4_keepTrue_8 : decode cX4_keepTrue 8 = .ok (.iconst 2, 1) := by decide +kernel
theorem dX4_keepTrue_9 : decode cX4_keepTrue 9 = .ok (.iaload, 1) := by decide +kernel
theorem dX4_keepTrue_10 : decode cX4_keepTrue 10 = .ok (.iconst 1, 1) := by decide +kernel
theorem dX4_keepTrue_11 : decode cX4_keepTrue 11 = .ok (.if_icmp .ne 9, 3) := by decide +kernel
theorem dX4_keepTrue_14 : decode cX4_keepTrue 14 = .ok (.aload_n 0, 1) := by decide +kernel
theorem dX4_keepTrue_15 : decode cX4_keepTrue 15 = .ok (.invokevirtual 137, 3) := by decide +kernel
theorem dX4_keepTrue_18 : decode cX4_keepTrue 18 = .ok (.pop, 1) := by decide +kernel
theorem dX4_keepTrue_19 : decode cX4_keepTrue 19 = .ok (.return_, 1) := by decide +kernel
theorem dX4_keepTrue_20 : decode cX4_keepTrue 20 = .ok (.aload_n 0, 1) := by decide +kernel
theorem dX4_keepTrue_21 : decode cX4_keepTrue 21 = .ok (.iload_n 1, 1) := by decide +kernel
theorem dX4_keepTrue_22 : decode cX4_keepTrue 22 = .ok (.invokevirtual 159, 3) := by decide +kernel
theorem dX4_keepTrue_25 : decode cX4_keepTrue 25 = .ok (.iload_n 2, 1) := by decide +kernel
theorem dX4_keepTrue_26 : decode cX4_keepTrue 26 = .ok (.iload_n 1, 1) := by decide +kernel
theorem dX4_keepTrue_27 : decode cX4_keepTrue 27 = .ok (.if_icmp .eq 8, 3) := by decide +kernel
theorem dX4_keepTrue_30 : decode cX4_keepTrue 30 = .ok (.aload_n 0, 1) := by decide +kernel
theorem dX4_keepTrue_31 : decode cX4_keepTrue 31 = .ok (.iload_n 2, 1) := by decide +kernel
theorem dX4_keepTrue_32 : decode cX4_keepTrue 32 = .ok (.invokevirtual 159, 3) := by decide +kernel
theorem dX4_keepTrue_35 : decode cX4_keepTrue 35 = .ok (.return_, 1) := by decide +kernel
set_option maxRecDepth 20000 in
theorem ggX4_keepAnswerTrue_X2_holds : GoodIn wsX4_keepAnswerTrue wsX2_holds := goodIn_r _ [8, 9, 22, 23, 24, 25] (by decide +kernel) (by decide +kernel)
set_option maxRecDepth 20000 in
theorem gX4_keepAnswerTrue_X2_holds : GoodIn wsX4_keepAnswerTrue (wsV RX4 75 RX2 yX2_holds wsX2_holds) := goodIn_app (goodIn_of _ (by decide +kernel)) ggX4_keepAnswerTrue_X2_holds
set_option maxRecDepth 20000 in
theorem ggX4_keepAnswerTrue_X2_lose : GoodIn wsX4_keepAnswerTrue wsX2_lose := goodIn_r _ [13, 9, 22, 23, 24, 25] (by decide +kernel) (by decide +kernel)
set_option maxRecDepth 20000 in
theorem gX4_keepAnswerTrue_X2_lose : GoodIn wsX4_keepAnswerTrue (wsV RX4 156 RX2 yX2_lose wsX2_lose) := goodIn_app (goodIn_of _ (by decide +kernel)) ggX4_keepAnswerTrue_X2_lose
theorem dX4_keepAnswerTrue_0 : decode cX4_keepAnswerTrue 0 = .ok (.aload_n 0, 1) := by decide +kernel
theorem dX4_keepAnswerTrue_1 : decode cX4_keepAnswerTrue 1 = .ok (.getfield 31, 3) := by decide +kernel
theorem dX4_keepAnswerTrue_4 : decode cX4_keepAnswerTrue 4 = .ok (.iload_n 1, 1) := by decide +kernel
theorem dX4_keepAnswerTrue_5 : decode cX4_keepAnswerTrue 5 = .ok (.invokevirtual 75, 3) := by decide +kernel
theorem dX4_keepAnswerTrue_8 : decode cX4_keepAnswerTrue 8 = .ok (.ifCond .ne 4, 3) := by decide +kernel
theorem dX4_keepAnswerTrue_11 : decode cX4_keepAnswerTrue 11 = .ok (.return_, 1) := by decide +kernel
theorem dX4_keepAnswerTrue_12 : decode cX4_keepAnswerTrue 12 = .ok (.aload_n 0, 1) := by decide +kernel
theorem dX4_keepAnswerTrue_13 : decode cX4_keepAnswerTrue 13 = .ok (.getfield 44, 3) := by decide +kernel
theorem dX4_keepAnswerTrue_16 : decode cX4_keepAnswerTrue 16 = .ok (.iconst 2, 1) := by decide +kernel
theorem dX4_keepAnswerTrue_17 : decode cX4_keepAnswerTrue 17 = .ok (.iaload, 1) := by decide +kernel
theorem dX4_keepAnswerTrue_18 : decode cX4_keepAnswerTrue 18 = .ok (.iconst 2, 1) := by decide +kernel
theorem dX4_keepAnswerTrue_19 : decode cX4_keepAnswerTrue 19 = .ok (.if_icmp .ne 17, 3) := by decide +kernel
theorem dX4_keepAnswerTrue_22 : decode cX4_keepAnswerTrue 22 = .ok (.aload_n 0, 1) := by decide +kernel
theorem dX4_keepAnswerTrue_23 : decode cX4_keepAnswerTrue 23 = .ok (.getfield 47, 3) := by decide +kernel
theorem dX4_keepAnswerTrue_26 : decode cX4_keepAnswerTrue 26 = .ok (.bipush 6, 2) := by decide +kernel
theorem dX4_keepAnswerTrue_28 : decode cX4_keepAnswerTrue 28 = .ok (.dup2, 1) := by decide +kernel
theorem dX4_keepAnswerTrue_29 : decode cX4_keepAnswerTrue 29 = .ok (.iaload, 1) := by decide +kernel
theorem dX4_keepAnswerTrue_30 : decode cX4_keepAnswerTrue 30 = .ok (.iconst 1, 1) := by decide +kernel
theorem dX4_keepAnswerTrue_31 : decode cX4_keepAnswerTrue 31 = .ok (.iadd, 1) := by decide +kernel
theorem dX4_keepAnswerTrue_32 : decode cX4_keepAnswerTrue 32 = .ok (.iastore, 1) := by decide +kernel
theorem dX4_keepAnswerTrue_33 : decode cX4_keepAnswerTrue 33 = .ok (.goto 21, 3) := by decide +kernel
theorem dX4_keepAnswerTrue_36 : decode cX4_keepAnswerTrue 36 = .ok (.aload_n 0, 1) := by decide +kernel
theorem dX4_keepAnswerTrue_37 : decode cX4_keepAnswerTrue 37 = .ok (.getfield 31, 3) := by decide +kernel
theorem dX4_keepAnswerTrue_40 : decode cX4_keepAnswerTrue 40 = .ok (.iload_n 1, 1) := by decide +kernel
theorem dX4_keepAnswerTrue_41 : decode cX4_keepAnswerTrue 41 = .ok (.invokevirtual 156, 3) := by decide +kernel
theorem dX4_keepAnswerTrue_44 : decode cX4_keepAnswerTrue 44 = .ok (.aload_n 0, 1) := by decide +kernel
theorem dX4_keepAnswerTrue_45 : decode cX4_keepAnswerTrue 45 = .ok (.getfield 47, 3) := by decide +kernel
theorem dX4_keepAnswerTrue_48 : decode cX4_keepAnswerTrue 48 = .ok (.iconst 4, 1) := by decide +kernel
theorem dX4_keepAnswerTrue_49 : decode cX4_keepAnswerTrue 49 = .ok (.dup2, 1) := by decide +kernel
theorem dX4_keepAnswerTrue_50 : decode cX4_keepAnswerTrue 50 = .ok (.iaload, 1) := by decide +kernel
theorem dX4_keepAnswerTrue_51 : decode cX4_keepAnswerTrue 51 = .ok (.iconst 1, 1) := by decide +kernel
theorem dX4_keepAnswerTrue_52 : decode cX4_keepAnswerTrue 52 = .ok (.iadd, 1) := by decide +kernel
theorem dX4_keepAnswerTrue_53 : decode cX4_keepAnswerTrue 53 = .ok (.iastore, 1) := by decide +kernel
theorem dX4_keepAnswerTrue_54 : decode cX4_keepAnswerTrue 54 = .ok (.return_, 1) := by decide +kernel
set_option maxRecDepth 20000 in
theorem ggX4_findAnswers_X0_find : GoodIn wsX4_findAnswers wsX0_find := goodIn_r _ [8, 9, 10, 11, 12, 13, 14, 15, 16, 17, 18, 19, 20, 21, 22, 23, 24, 25, 26, 27, 36, 37, 38, 39, 40, 41] (by decide +kernel) (by decide +kernel)
set_option maxRecDepth 20000 in
theorem gX4_findAnswers_X0_find : GoodIn wsX4_findAnswers (wsV RX4 162 RX0 yX0_find wsX0_find) := goodIn_app (goodIn_of _ (by decide +kernel)) ggX4_findAnswers_X0_find
theorem dX4_findAnswers_0 : decode cX4_findAnswers 0 = .ok (.aload_n 0, 1) := by decide +kernel
theorem dX4_findAnswers_1 : decode cX4_findAnswers 1 = .ok (.getfield 24, 3) := by decide +kernel
theorem dX4_findAnswers_4 : decode cX4_findAnswers 4 = .ok (.aload_n 0, 1) := by decide +kernel
theorem dX4_findAnswers_5 : decode cX4_findAnswers 5 = .ok (.getfield 18, 3) := by decide +kernel
theorem dX4_findAnswers_8 : decode cX4_findAnswers 8 = .ok (.aload_n 0, 1) := by decide +kernel
theorem dX4_findAnswers_9 : decode cX4_findAnswers 9 = .ok (.getfield 44, 3) := by decide +kernel
theorem dX4_findAnswers_12 : decode cX4_findAnswers 12 = .ok (.iconst 3, 1) := by decide +kernel
theorem dX4_findAnswers_13 : decode cX4_findAnswers 13 = .ok (.iaload, 1) := by decide +kernel
theorem dX4_findAnswers_14 : decode cX4_findAnswers 14 = .ok (.aload_n 0, 1) := by decide +kernel
theorem dX4_findAnswers_15 : decode cX4_findAnswers 15 = .ok (.getfield 44, 3) := by decide +kernel
theorem dX4_findAnswers_18 : decode cX4_findAnswers 18 = .ok (.iconst 4, 1) := by decide +kernel
theorem dX4_findAnswers_19 : decode cX4_findAnswers 19 = .ok (.iaload, 1) := by decide +kernel
theorem dX4_findAnswers_20 : decode cX4_findAnswers 20 = .ok (.invokevirtual 162, 3) := by decide +kernel
theorem dX4_findAnswers_23 : decode cX4_findAnswers 23 = .ok (.return_, 1) := by decide +kernel
theorem dX4_isInBand_0 : decode cX4_isInBand 0 = .ok (.iload_n 1, 1) := by decide +kernel
theorem dX4_isInBand_1 : decode cX4_isInBand 1 = .ok (.aload_n 0, 1) := by decide +kernel
theorem dX4_isInBand_2 : decode cX4_isInBand 2 = .ok (.getfield 44, 3) := by decide +kernel
theorem dX4_isInBand_5 : decode cX4_isInBand 5 = .ok (.iconst 3, 1) := by decide +kernel
theorem dX4_isInBand_6 : decode cX4_isInBand 6 = .ok (.iaload, 1) := by decide +kernel
theorem dX4_isInBand_7 : decode cX4_isInBand 7 = .ok (.if_icmp .lt 17, 3) := by decide +kernel
theorem dX4_isInBand_10 : decode cX4_isInBand 10 = .ok (.iload_n 1, 1) := by decide +kernel
theorem dX4_isInBand_11 : decode cX4_isInBand 11 = .ok (.aload_n 0, 1) := by decide +kernel
theorem dX4_isInBand_12 : decode cX4_isInBand 12 = .ok (.getfield 44, 3) := by decide +kernel
theorem dX4_isInBand_15 : decode cX4_isInBand 15 = .ok (.iconst 4, 1) := by decide +kernel
theorem dX4_isInBand_16 : decode cX4_isInBand 16 = .ok (.iaload, 1) := by decide +kernel
theorem dX4_isInBand_17 : decode cX4_isInBand 17 = .ok (.if_icmp .gt 7, 3) := by decide +kernel
theorem dX4_isInBand_20 : decode cX4_isInBand 20 = .ok (.iconst 1, 1) := by decide +kernel
theorem dX4_isInBand_21 : decode cX4_isInBand 21 = .ok (.goto 4, 3) := by decide +kernel
theorem dX4_isInBand_24 : decode cX4_isInBand 24 = .ok (.iconst 0, 1) := by decide +kernel
theorem dX4_isInBand_25 : decode cX4_isInBand 25 = .ok (.ireturn, 1) := by decide +kernel
theorem dX5_init_0 : decode cX5_init 0 = .ok (.aload_n 0, 1) := by decide +kernel
theorem dX5_init_1 : decode cX5_init 1 = .ok (.invokespecial 3, 3) := by decide +kernel
theorem dX5_init_4 : decode cX5_init 4 = .ok (.aload_n 0, 1) := by decide +kernel
theorem dX5_init_5 : decode cX5_init 5 = .ok (.bipush 20, 2) := by decide +kernel
theorem dX5_init_7 : decode cX5_init 7 = .ok (.newarray .int, 2) := by decide +kernel
theorem dX5_init_9 : decode cX5_init 9 = .ok (.putfield 9, 3) := by decide +kernel
theorem dX5_init_12 : decode cX5_init 12 = .ok (.aload_n 0, 1) := by decide +kernel
theorem dX5_init_13 : decode cX5_init 13 = .ok (.bipush 20, 2) := by decide +kernel
theorem dX5_init_15 : decode cX5_init 15 = .ok (.newarray .int, 2) := by decide +kernel
theorem dX5_init_17 : decode cX5_init 17 = .ok (.putfield 15, 3) := by decide +kernel
theorem dX5_init_20 : decode cX5_init 20 = .ok (.return_, 1) := by decide +kernel
set_option maxRecDepth 20000 in
theorem ggX5_copyFrom_X6_copyNumbers : GoodIn wsX5_copyFrom wsX6_copyNumbers := goodIn_r _ [6, 7, 8, 9, 10, 11, 12, 13, 14] (by decide +kernel) (by decide +kernel)
set_option maxRecDepth 20000 in
theorem gX5_copyFrom_X6_copyNumbers_n18 : GoodIn wsX5_copyFrom (wsX6_copyNumbers) := ggX5_copyFrom_X6_copyNumbers
theorem dX5_copyFrom_0 : decode cX5_copyFrom 0 = .ok (.aload_n 1, 1) := by decide +kernel
theorem dX5_copyFrom_1 : decode cX5_copyFrom 1 = .ok (.getfield 9, 3) := by decide +kernel
theorem dX5_copyFrom_4 : decode cX5_copyFrom 4 = .ok (.aload_n 0, 1) := by decide +kernel
theorem dX5_copyFrom_5 : decode cX5_copyFrom 5 = .ok (.getfield 9, 3) := by decide +kernel
theorem dX5_copyFrom_8 : decode cX5_copyFrom 8 = .ok (.invokestatic 18, 3) := by decide +kernel
theorem dX5_copyFrom_11 : decode cX5_copyFrom 11 = .ok (.aload_n 1, 1) := by decide +kernel
theorem dX5_copyFrom_12 : decode cX5_copyFrom 12 = .ok (.getfield 15, 3) := by decide +kernel
theorem dX5_copyFrom_15 : decode cX5_copyFrom 15 = .ok (.aload_n 0, 1) := by decide +kernel
theorem dX5_copyFrom_16 : decode cX5_copyFrom 16 = .ok (.getfield 15, 3) := by decide +kernel
theorem dX5_copyFrom_19 : decode cX5_copyFrom 19 = .ok (.invokestatic 18, 3) := by decide +kernel
theorem dX5_copyFrom_22 : decode cX5_copyFrom 22 = .ok (.aload_n 0, 1) := by decide +kernel
theorem dX5_copyFrom_23 : decode cX5_copyFrom 23 = .ok (.aload_n 1, 1) := by decide +kernel
theorem dX5_copyFrom_24 : decode cX5_copyFrom 24 = .ok (.getfield 22, 3) := by decide +kernel
theorem dX5_copyFrom_27 : decode cX5_copyFrom 27 = .ok (.putfield 22, 3) := by decide +kernel
theorem dX5_copyFrom_30 : decode cX5_copyFrom 30 = .ok (.return_, 1) := by decide +kernel
theorem dX5_size_0 : decode cX5_size 0 = .ok (.aload_n 0, 1) := by decide +kernel
theorem dX5_size_1 : decode cX5_size 1 = .ok (.getfield 22, 3) := by decide +kernel
theorem dX5_size_4 : decode cX5_size 4 = .ok (.ireturn, 1) := by decide +kernel
theorem dX5_has_0 : decode cX5_has 0 = .ok (.iload_n 1, 1) := by decide +kernel
theorem dX5_has_1 : decode cX5_has 1 = .ok (.ifCond .lt 15, 3) := by decide +kernel
theorem dX5_has_4 : decode cX5_has 4 = .ok (.iload_n 1, 1) := by decide +kernel
theorem dX5_has_5 : decode cX5_has 5 = .ok (.aload_n 0, 1) := by decide +kernel
theorem dX5_has_6 : decode cX5_has 6 = .ok (.getfield 22, 3) := by decide +kernel
theorem dX5_has_9 : decode cX5_has 9 = .ok (.if_icmp .ge 7, 3) := by decide +kernel
theorem dX5_has_12 : decode cX5_has 12 = .ok (.iconst 1, 1) := by decide +kernel
theorem dX5_has_13 : decode cX5_has 13 = .ok (.goto 4, 3) := by decide +kernel
theorem dX5_has_16 : decode cX5_has 16 = .ok (.iconst 0, 1) := by decide +kernel
theorem dX5_has_17 : decode cX5_has 17 = .ok (.ireturn, 1) := by decide +kernel
theorem dX5_key_0 : decode cX5_key 0 = .ok (.iload_n 1, 1) := by decide +kernel
theorem dX5_key_1 : decode cX5_key 1 = .ok (.ifCond .lt 21, 3) := by decide +kernel
theorem dX5_key_4 : decode cX5_key 4 = .ok (.iload_n 1, 1) := by decide +kernel
theorem dX5_key_5 : decode cX5_key 5 = .ok (.aload_n 0, 1) := by decide +kernel
theorem dX5_key_6 : decode cX5_key 6 = .ok (.getfield 9, 3) := by decide +kernel
theorem dX5_key_9 : decode cX5_key 9 = .ok (.arraylength, 1) := by decide +kernel
theorem dX5_key_10 : decode cX5_key 10 = .ok (.if_icmp .ge 12, 3) := by decide +kernel
theorem dX5_key_13 : decode cX5_key 13 = .ok (.aload_n 0, 1) := by decide +kernel
theorem dX5_key_14 : decode cX5_key 14 = .ok (.getfield 9, 3) := by decide +kernel
theorem dX5_key_17 : decode cX5_key 17 = .ok (.iload_n 1, 1) := by decide +kernel
theorem dX5_key_18 : decode cX5_key 18 = .ok (.iaload, 1) := by decide +kernel
theorem dX5_key_19 : decode cX5_key 19 = .ok (.goto 4, 3) := by decide +kernel
theorem dX5_key_22 : decode cX5_key 22 = .ok (.iconst 0, 1) := by decide +kernel
theorem dX5_key_23 : decode cX5_key 23 = .ok (.ireturn, 1) := by decide +kernel
theorem dX5_value_0 : decode cX5_value 0 = .ok (.iload_n 1, 1) := by decide +kernel
theorem dX5_value_1 : decode cX5_value 1 = .ok (.ifCond .lt 21, 3) := by decide +kernel
theorem dX5_value_4 : decode cX5_value 4 = .ok (.iload_n 1, 1) := by decide +kernel
theorem dX5_value_5 : decode cX5_value 5 = .ok (.aload_n 0, 1) := by decide +kernel
theorem dX5_value_6 : decode cX5_value 6 = .ok (.getfield 15, 3) := by decide +kernel
theorem dX5_value_9 : decode cX5_value 9 = .ok (.arraylength, 1) := by decide +kernel
theorem dX5_value_10 : decode cX5_value 10 = .ok (.if_icmp .ge 12, 3) := by decide +kernel
theorem dX5_value_13 : decode cX5_value 13 = .ok (.aload_n 0, 1) := by decide +kernel
theorem dX5_value_14 : decode cX5_value 14 = .ok (.getfield 15, 3) := by decide +kernel
theorem dX5_value_17 : decode cX5_value 17 = .ok (.iload_n 1, 1) := by decide +kernel
theorem dX5_value_18 : decode cX5_value 18 = .ok (.iaload, 1) := by decide +kernel
theorem dX5_value_19 : decode cX5_value 19 = .ok (.goto 4, 3) := by decide +kernel
theorem dX5_value_22 : decode cX5_value 22 = .ok (.iconst 0, 1) := by decide +kernel
theorem dX5_value_23 : decode cX5_value 23 = .ok (.ireturn, 1) := by decide +kernel
theorem dX5_put_0 : decode cX5_put 0 = .ok (.iload_n 1, 1) := by decide +kernel
theorem dX5_put_1 : decode cX5_put 1 = .ok (.ifCond .lt 35, 3) := by decide +kernel
theorem dX5_put_4 : decode cX5_put 4 = .ok (.iload_n 1, 1) := by decide +kernel
theorem dX5_put_5 : decode cX5_put 5 = .ok (.aload_n 0, 1) := by decide +kernel
theorem dX5_put_6 : decode cX5_put 6 = .ok (.getfield 9, 3) := by decide +kernel
theorem dX5_put_9 : decode cX5_put 9 = .ok (.arraylength, 1) := by decide +kernel
theorem dX5_put_10 : decode cX5_put 10 = .ok (.if_icmp .ge 26, 3) := by decide +kernel
theorem dX5_put_13 : decode cX5_put 13 = .ok (.iload_n 1, 1) := by decide +kernel
theorem dX5_put_14 : decode cX5_put 14 = .ok (.aload_n 0, 1) := by decide +kernel
theorem dX5_put_15 : decode cX5_put 15 = .ok (.getfield 15, 3) := by decide +kernel
theorem dX5_put_18 : decode cX5_put 18 = .ok (.arraylength, 1) := by decide +kernel
theorem dX5_put_19 : decode cX5_put 19 = .ok (.if_icmp .ge 17, 3) := by decide +kernel
theorem dX5_put_22 : decode cX5_put 22 = .ok (.aload_n 0, 1) := by decide +kernel
theorem dX5_put_23 : decode cX5_put 23 = .ok (.getfield 9, 3) := by decide +kernel
theorem dX5_put_26 : decode cX5_put 26 = .ok (.iload_n 1, 1) := by decide +kernel
theorem dX5_put_27 : decode cX5_put 27 = .ok (.iload_n 2, 1) := by decide +kernel
theorem dX5_put_28 : decode cX5_put 28 = .ok (.iastore, 1) := by decide +kernel
theorem dX5_put_29 : decode cX5_put 29 = .ok (.aload_n 0, 1) := by decide +kernel
theorem dX5_put_30 : decode cX5_put 30 = .ok (.getfield 15, 3) := by decide +kernel
theorem dX5_put_33 : decode cX5_put 33 = .ok (.iload_n 1, 1) := by decide +kernel
theorem dX5_put_34 : decode cX5_put 34 = .ok (.iload_n 3, 1) := by decide +kernel
theorem dX5_put_35 : decode cX5_put 35 = .ok (.iastore, 1) := by decide +kernel
theorem dX5_put_36 : decode cX5_put 36 = .ok (.return_, 1) := by decide +kernel
set_option maxRecDepth 20000 in
theorem ggX5_push_X5_put : GoodIn wsX5_push wsX5_put := goodIn_r _ [6, 7, 8, 9, 10, 11] (by decide +kernel) (by decide +kernel)
set_option maxRecDepth 20000 in
theorem gX5_push_X5_put : GoodIn wsX5_push (wsV RX5 26 RX5 yX5_put wsX5_put) := goodIn_app (goodIn_of _ (by decide +kernel)) ggX5_push_X5_put
theorem dX5_push_0 : decode cX5_push 0 = .ok (.aload_n 0, 1) := by decide +kernel
theorem dX5_push_1 : decode cX5_push 1 = .ok (.getfield 22, 3) := by decide +kernel
theorem dX5_push_4 : decode cX5_push 4 = .ok (.bipush 20, 2) := by decide +kernel
theorem dX5_push_6 : decode cX5_push 6 = .ok (.if_icmp .ge 23, 3) := by decide +kernel
theorem dX5_push_9 : decode cX5_push 9 = .ok (.aload_n 0, 1) := by decide +kernel
theorem dX5_push_10 : decode cX5_push 10 = .ok (.aload_n 0, 1) := by decide +kernel
theorem dX5_push_11 : decode cX5_push 11 = .ok (.getfield 22, 3) := by decide +kernel
theorem dX5_push_14 : decode cX5_push 14 = .ok (.iload_n 1, 1) := by decide +kernel
theorem dX5_push_15 : decode cX5_push 15 = .ok (.iload_n 2, 1) := by decide +kernel
theorem dX5_push_16 : decode cX5_push 16 = .ok (.invokevirtual 26, 3) := by decide +kernel
theorem dX5_push_19 : decode cX5_push 19 = .ok (.aload_n 0, 1) := by decide +kernel
theorem dX5_push_20 : decode cX5_push 20 = .ok (.dup, 1) := by decide +kernel
theorem dX5_push_21 : decode cX5_push 21 = .ok (.getfield 22, 3) := by decide +kernel
theorem dX5_push_24 : decode cX5_push 24 = .ok (.iconst 1, 1) := by decide +kernel
theorem dX5_push_25 : decode cX5_push 25 = .ok (.iadd, 1) := by decide +kernel
theorem dX5_push_26 : decode cX5_push 26 = .ok (.putfield 22, 3) := by decide +kernel
theorem dX5_push_29 : decode cX5_push 29 = .ok (.return_, 1) := by decide +kernel
set_option maxRecDepth 20000 in
theorem ggX5_takeOut_X5_has : GoodIn wsX5_takeOut wsX5_has := goodIn_r _ [6, 1, 21, 22, 23] (by decide +kernel) (by decide +kernel)
set_option maxRecDepth 20000 in
theorem gX5_takeOut_X5_has : GoodIn wsX5_takeOut (wsV RX5 30 RX5 yX5_has wsX5_has) := goodIn_app (goodIn_of _ (by decide +kernel)) ggX5_takeOut_X5_has
set_option maxRecDepth 20000 in
theorem ggX5_takeOut_X5_key : GoodIn wsX5_takeOut wsX5_key := goodIn_r _ [10, 11, 21, 22, 23] (by decide +kernel) (by decide +kernel)
set_option maxRecDepth 20000 in
theorem gX5_takeOut_X5_key : GoodIn wsX5_takeOut (wsV RX5 34 RX5 yX5_key wsX5_key) := goodIn_app (goodIn_of _ (by decide +kernel)) ggX5_takeOut_X5_key
set_option maxRecDepth 20000 in
theorem ggX5_takeOut_X5_value : GoodIn wsX5_takeOut wsX5_value := goodIn_r _ [15, 16, 21, 22, 23] (by decide +kernel) (by decide +kernel)
set_option maxRecDepth 20000 in
theorem gX5_takeOut_X5_value : GoodIn wsX5_takeOut (wsV RX5 38 RX5 yX5_value wsX5_value) := goodIn_app (goodIn_of _ (by decide +kernel)) ggX5_takeOut_X5_value
set_option maxRecDepth 20000 in
theorem ggX5_takeOut_X5_put : GoodIn wsX5_takeOut wsX5_put := goodIn_r _ [20, 11, 16, 21, 22, 23] (by decide +kernel) (by decide +kernel)
set_option maxRecDepth 20000 in
theorem gX5_takeOut_X5_put : GoodIn wsX5_takeOut (wsV RX5 26 RX5 yX5_put wsX5_put) := goodIn_app (goodIn_of _ (by decide +kernel)) ggX5_takeOut_X5_put
theorem dX5_takeOut_0 : decode cX5_takeOut 0 = .ok (.aload_n 0, 1) := by decide +kernel
theorem dX5_takeOut_1 : decode cX5_takeOut 1 = .ok (.iload_n 1, 1) := by decide +kernel
theorem dX5_takeOut_2 : decode cX5_takeOut 2 = .ok (.invokevirtual 30, 3) := by decide +kernel
theorem dX5_takeOut_5 : decode cX5_takeOut 5 = .ok (.ifCond .ne 4, 3) := by decide +kernel
theorem dX5_takeOut_8 : decode cX5_takeOut 8 = .ok (.return_, 1) := by decide +kernel
theorem dX5_takeOut_9 : decode cX5_takeOut 9 = .ok (.iload_n 1, 1) := by decide +kernel
theorem dX5_takeOut_10 : decode cX5_takeOut 10 = .ok (.istore_n 2, 1) := by decide +kernel
theorem dX5_takeOut_11 : decode cX5_takeOut 11 = .ok (.iload_n 2, 1) := by decide +kernel
theorem dX5_takeOut_12 : decode cX5_takeOut 12 = .ok (.aload_n 0, 1) := by decide +kernel
theorem dX5_takeOut_13 : decode cX5_takeOut 13 = .ok (.getfield 22, 3) := by decide +kernel
theorem dX5_takeOut_16 : decode cX5_takeOut 16 = .ok (.iconst 1, 1) := by decide +kernel
theorem dX5_takeOut_17 : decode cX5_takeOut 17 = .ok (.isub, 1) := by decide +kernel
theorem dX5_takeOut_18 : decode cX5_takeOut 18 = .ok (.if_icmp .ge 28, 3) := by decide +kernel
theorem dX5_takeOut_21 : decode cX5_takeOut 21 = .ok (.aload_n 0, 1) := by decide +kernel
theorem dX5_takeOut_22 : decode cX5_takeOut 22 = .ok (.iload_n 2, 1) := by decide +kernel
theorem dX5_takeOut_23 : decode cX5_takeOut 23 = .ok (.aload_n 0, 1) := by decide +kernel
theorem dX5_takeOut_24 : decode cX5_takeOut 24 = .ok (.iload_n 2, 1) := by decide +kernel
theorem dX5_takeOut_25 : decode cX5_takeOut 25 = .ok (.iconst 1, 1) := by decide +kernel
theorem dX5_takeOut_26 : decode cX5_takeOut 26 = .ok (.iadd, 1) := by decide +kernel
theorem dX5_takeOut_27 : decode cX5_takeOut 27 = .ok (.invokevirtual 34, 3) := by decide +kernel
theorem dX5_takeOut_30 : decode cX5_takeOut 30 = .ok (.aload_n 0, 1) := by decide +kernel
theorem dX5_takeOut_31 : decode cX5_takeOut 31 = .ok (.iload_n 2, 1) := by decide +kernel
theorem dX5_takeOut_32 : decode cX5_takeOut 32 = .ok (.iconst 1, 1) := by decide +kernel
theorem dX5_takeOut_33 : decode cX5_takeOut 33 = .ok (.iadd, 1) := by decide +kernel
theorem dX5_takeOut_34 : decode cX5_takeOut 34 = .ok (.invokevirtual 38, 3) := by decide +kernel
theorem dX5_takeOut_37 : decode cX5_takeOut 37 = .ok (.invokevirtual 26, 3) := by decide +kernel
theorem dX5_takeOut_40 : decode cX5_takeOut 40 = .ok (.iinc 2 1, 3) := by decide +kernel
theorem dX5_takeOut_43 : decode cX5_takeOut 43 = .ok (.goto (-32), 3) := by decide +kernel
theorem dX5_takeOut_46 : decode cX5_takeOut 46 = .ok (.aload_n 0, 1) := by decide +kernel
theorem dX5_takeOut_47 : decode cX5_takeOut 47 = .ok (.dup, 1) := by decide +kernel
theorem dX5_takeOut_48 : decode cX5_takeOut 48 = .ok (.getfield 22, 3) := by decide +kernel
theorem dX5_takeOut_51 : decode cX5_takeOut 51 = .ok (.iconst 1, 1) := by decide +kernel
theorem dX5_takeOut_52 : decode cX5_takeOut 52 = .ok (.isub, 1) := by decide +kernel
theorem dX5_takeOut_53 : decode cX5_takeOut 53 = .ok (.putfield 22, 3) := by decide +kernel
theorem dX5_takeOut_56 : decode cX5_takeOut 56 = .ok (.return_, 1) := by decide +kernel
set_option maxRecDepth 20000 in
theorem ggX6_init_X4_init : GoodIn wsX6_init wsX4_init := goodIn_r _ [20, 21, 2, 3, 22, 23, 24, 25, 26, 27, 28, 29, 30, 31, 32, 33, 34, 35, 36, 37, 38, 39, 40, 41, 42, 43, 44, 45, 46, 47, 48, 49, 50, 51, 52, 53, 54, 55, 56, 57, 58, 59, 60, 61, 62, 63, 64, 106, 107, 108, 77, 78, 79, 80, 81, 82, 83, 84, 109, 110, 111, 112, 113, 114, 115] (by decide +kernel) (by decide +kernel)
set_option maxRecDepth 20000 in
theorem gX6_init_X4_init : GoodIn wsX6_init (wsX4_init) := ggX6_init_X4_init
set_option maxRecDepth 20000 in
theorem ggX6_init_X1_init : GoodIn wsX6_init wsX1_init := goodIn_r _ [67, 68, 2, 3, 69, 70, 5, 6, 71, 19, 20, 21, 22, 23, 24, 25, 26, 27, 28, 29, 30, 31, 32, 33, 34, 35, 36, 37, 38, 39, 40, 41, 42, 43, 44, 45, 46, 47, 48, 49, 50, 51, 52, 53, 54, 55, 56, 57, 58, 59, 60, 61, 62, 63, 64, 94, 95, 96, 77, 78, 79, 80, 81, 82, 83, 84, 106, 107, 108, 109, 110, 111, 112, 113, 114, 115] (by decide +kernel) (by decide +kernel)
set_option maxRecDepth 20000 in
theorem gX6_init_X1_init : GoodIn wsX6_init (wsX1_init) := ggX6_init_X1_init
set_option maxRecDepth 20000 in
theorem ggX6_init_X3_init : GoodIn wsX6_init wsX3_init := goodIn_r _ [74, 75, 2, 3, 43, 76, 97, 98, 99, 100, 101, 102, 103, 104, 105] (by decide +kernel) (by decide +kernel)
set_option maxRecDepth 20000 in
theorem gX6_init_X3_init : GoodIn wsX6_init (wsX3_init) := ggX6_init_X3_init
theorem dX6_init_0 : decode cX6_init 0 = .ok (.aload_n 0, 1) := by decide +kernel
theorem dX6_init_1 : decode cX6_init 1 = .ok (.invokespecial 1, 3) := by decide +kernel
theorem dX6_init_4 : decode cX6_init 4 = .ok (.aload_n 0, 1) := by decide +kernel
theorem dX6_init_5 : decode cX6_init 5 = .ok (.new 7, 3) := by decide +kernel
theorem dX6_init_8 : decode cX6_init 8 = .ok (.dup, 1) := by decide +kernel
theorem dX6_init_9 : decode cX6_init 9 = .ok (.invokespecial 9, 3) := by decide +kernel
theorem dX6_init_12 : decode cX6_init 12 = .ok (.putfield 10, 3) := by decide +kernel
theorem dX6_init_15 : decode cX6_init 15 = .ok (.aload_n 0, 1) := by decide +kernel
theorem dX6_init_16 : decode cX6_init 16 = .ok (.new 7, 3) := by decide +kernel
theorem dX6_init_19 : decode cX6_init 19 = .ok (.dup, 1) := by decide +kernel
theorem dX6_init_20 : decode cX6_init 20 = .ok (.invokespecial 9, 3) := by decide +kernel
theorem dX6_init_23 : decode cX6_init 23 = .ok (.putfield 16, 3) := by decide +kernel
theorem dX6_init_26 : decode cX6_init 26 = .ok (.aload_n 0, 1) := by decide +kernel
theorem dX6_init_27 : decode cX6_init 27 = .ok (.new 7, 3) := by decide +kernel
theorem dX6_init_30 : decode cX6_init 30 = .ok (.dup, 1) := by decide +kernel
theorem dX6_init_31 : decode cX6_init 31 = .ok (.invokespecial 9, 3) := by decide +kernel
theorem dX6_init_34 : decode cX6_init 34 = .ok (.putfield 19, 3) := by decide +kernel
theorem dX6_init_37 : decode cX6_init 37 = .ok (.aload_n 0, 1) := by decide +kernel
theorem dX6_init_38 : decode cX6_init 38 = .ok (.new 22, 3) := by decide +kernel
theorem dX6_init_41 : decode cX6_init 41 = .ok (.dup, 1) := by decide +kernel
theorem dX6_init_42 : decode cX6_init 42 = .ok (.invokespecial 24, 3) := by decide +kernel
theorem dX6_init_45 : decode cX6_init 45 = .ok (.putfield 25, 3) := by decide +kernel
theorem dX6_init_48 : decode cX6_init 48 = .ok (.aload_n 0, 1) := by decide +kernel
theorem dX6_init_49 : decode cX6_init 49 = .ok (.new 29, 3) := by decide +kernel
theorem dX6_init_52 : decode cX6_init 52 = .ok (.dup, 1) := by decide +kernel
theorem dX6_init_53 : decode cX6_init 53 = .ok (.invokespecial 31, 3) := by decide +kernel
theorem dX6_init_56 : decode cX6_init 56 = .ok (.putfield 32, 3) := by decide +kernel
theorem dX6_init_59 : decode cX6_init 59 = .ok (.return_, 1) := by decide +kernel
set_option maxRecDepth 20000 in
theorem ggX6_add_X1_prepare : GoodIn wsX6_add wsX1_prepare := goodIn_r _ [7, 8, 9, 10, 11, 6, 12, 13, 14, 15, 16, 17, 18, 19, 20, 21, 22, 23, 24, 25, 26, 27, 28, 29, 30, 31, 32, 33, 34, 35, 36, 37, 38, 39, 40, 41, 42, 43, 44, 45, 46, 47, 48, 49, 50, 51, 52, 53, 54, 55, 56, 57, 58, 59, 60, 61, 62, 151, 152, 153, 154, 155, 156, 157, 158, 159, 160, 161, 162, 163, 164, 165, 166, 167, 168, 169, 170, 171] (by decide +kernel) (by decide +kernel)
set_option maxRecDepth 20000 in
theorem gX6_add_X1_prepare : GoodIn wsX6_add (wsV RX6 36 RX1 yX1_prepare wsX1_prepare) := goodIn_app (goodIn_of _ (by decide +kernel)) ggX6_add_X1_prepare
set_option maxRecDepth 20000 in
theorem ggX6_add_X4_insertRow : GoodIn wsX6_add wsX4_insertRow := goodIn_r _ [66, 67, 36, 68, 69, 70, 71, 72, 73, 74, 75, 76, 77, 17, 78, 20, 19, 79, 80, 81, 30, 82, 34, 83, 84, 85, 86, 87, 88, 89, 90, 32, 33, 91, 92, 93, 94, 23, 95, 96, 97, 98, 21, 99, 100, 101, 49, 102, 51, 52, 53, 103, 104, 105, 106, 107, 108, 109, 110, 111, 112, 113, 114, 115, 22, 24, 116, 117, 118, 57, 119, 59, 120, 121, 122, 123, 124, 125, 126, 127, 128, 129, 130, 131, 132, 133, 134, 135, 154, 155, 156, 157, 158, 159, 160, 161, 162, 163, 164, 165, 166, 167, 168, 169, 170, 171] (by decide +kernel) (by decide +kernel)
set_option maxRecDepth 20000 in
theorem gX6_add_X4_insertRow : GoodIn wsX6_add (wsV RX6 40 RX4 yX4_insertRow wsX4_insertRow) := goodIn_app (goodIn_of _ (by decide +kernel)) ggX6_add_X4_insertRow
set_option maxRecDepth 20000 in
theorem ggX6_add_X1_commit : GoodIn wsX6_add wsX1_commit := goodIn_r _ [139, 8, 140, 141, 39, 40, 41, 151, 152, 153] (by decide +kernel) (by decide +kernel)
set_option maxRecDepth 20000 in
theorem gX6_add_X1_commit : GoodIn wsX6_add (wsV RX6 44 RX1 yX1_commit wsX1_commit) := goodIn_app (goodIn_of _ (by decide +kernel)) ggX6_add_X1_commit
theorem dX6_add_0 : decode cX6_add 0 = .ok (.aload_n 0, 1) := by decide +kernel
theorem dX6_add_1 : decode cX6_add 1 = .ok (.getfield 25, 3) := by decide +kernel
theorem dX6_add_4 : decode cX6_add 4 = .ok (.aload_n 0, 1) := by decide +kernel
theorem dX6_add_5 : decode cX6_add 5 = .ok (.getfield 10, 3) := by decide +kernel
theorem dX6_add_8 : decode cX6_add 8 = .ok (.invokevirtual 36, 3) := by decide +kernel
theorem dX6_add_11 : decode cX6_add 11 = .ok (.aload_n 0, 1) := by decide +kernel
theorem dX6_add_12 : decode cX6_add 12 = .ok (.getfield 25, 3) := by decide +kernel
theorem dX6_add_15 : decode cX6_add 15 = .ok (.aload_n 0, 1) := by decide +kernel
theorem dX6_add_16 : decode cX6_add 16 = .ok (.getfield 10, 3) := by decide +kernel
theorem dX6_add_19 : decode cX6_add 19 = .ok (.iload_n 1, 1) := by decide +kernel
theorem dX6_add_20 : decode cX6_add 20 = .ok (.iload_n 2, 1) := by decide +kernel
theorem dX6_add_21 : decode cX6_add 21 = .ok (.iload_n 3, 1) := by decide +kernel
theorem dX6_add_22 : decode cX6_add 22 = .ok (.invokevirtual 40, 3) := by decide +kernel
theorem dX6_add_25 : decode cX6_add 25 = .ok (.invokevirtual 44, 3) := by decide +kernel
theorem dX6_add_28 : decode cX6_add 28 = .ok (.ireturn, 1) := by decide +kernel
set_option maxRecDepth 20000 in
theorem ggX6_drop_X1_prepare : GoodIn wsX6_drop wsX1_prepare := goodIn_r _ [7, 8, 9, 10, 11, 6, 12, 13, 14, 15, 16, 17, 18, 19, 20, 21, 22, 23, 24, 25, 26, 27, 28, 29, 30, 31, 32, 33, 34, 35, 36, 37, 38, 39, 40, 41, 42, 43, 44, 45, 46, 47, 48, 49, 50, 51, 52, 53, 54, 55, 56, 57, 58, 59, 60, 61, 62, 155, 156, 157, 158, 159, 160, 161, 162, 163, 164, 165, 166, 167, 168, 169, 170, 171, 172, 173, 174, 175] (by decide +kernel) (by decide +kernel)
set_option maxRecDepth 20000 in
theorem gX6_drop_X1_prepare : GoodIn wsX6_drop (wsV RX6 36 RX1 yX1_prepare wsX1_prepare) := goodIn_app (goodIn_of _ (by decide +kernel)) ggX6_drop_X1_prepare
set_option maxRecDepth 20000 in
theorem ggX6_drop_X4_removeRow : GoodIn wsX6_drop wsX4_removeRow := goodIn_r _ [66, 25, 67, 68, 69, 17, 70, 20, 19, 71, 72, 73, 30, 74, 34, 75, 76, 77, 78, 32, 79, 80, 81, 82, 83, 84, 85, 86, 87, 88, 33, 89, 90, 91, 92, 93, 94, 95, 96, 23, 97, 98, 99, 100, 21, 101, 102, 103, 49, 104, 51, 52, 53, 105, 106, 107, 108, 109, 110, 111, 112, 113, 114, 22, 24, 115, 116, 117, 57, 118, 59, 119, 120, 121, 122, 123, 124, 125, 126, 127, 128, 129, 130, 131, 132, 133, 134, 135, 136, 137, 138, 139, 158, 159, 160, 161, 162, 163, 164, 165, 166, 167, 168, 169, 170, 171, 172, 173, 174, 175] (by decide +kernel) (by decide +kernel)
set_option maxRecDepth 20000 in
theorem gX6_drop_X4_removeRow : GoodIn wsX6_drop (wsV RX6 48 RX4 yX4_removeRow wsX4_removeRow) := goodIn_app (goodIn_of _ (by decide +kernel)) ggX6_drop_X4_removeRow
set_option maxRecDepth 20000 in
theorem ggX6_drop_X1_commit : GoodIn wsX6_drop wsX1_commit := goodIn_r _ [143, 8, 144, 145, 39, 40, 41, 155, 156, 157] (by decide +kernel) (by decide +kernel)
set_option maxRecDepth 20000 in
theorem gX6_drop_X1_commit : GoodIn wsX6_drop (wsV RX6 44 RX1 yX1_commit wsX1_commit) := goodIn_app (goodIn_of _ (by decide +kernel)) ggX6_drop_X1_commit
theorem dX6_drop_0 : decode cX6_drop 0 = .ok (.aload_n 0, 1) := by decide +kernel
theorem dX6_drop_1 : decode cX6_drop 1 = .ok (.getfield 25, 3) := by decide +kernel
theorem dX6_drop_4 : decode cX6_drop 4 = .ok (.aload_n 0, 1) := by decide +kernel
theorem dX6_drop_5 : decode cX6_drop 5 = .ok (.getfield 10, 3) := by decide +kernel
theorem dX6_drop_8 : decode cX6_drop 8 = .ok (.invokevirtual 36, 3) := by decide +kernel
theorem dX6_drop_11 : decode cX6_drop 11 = .ok (.aload_n 0, 1) := by decide +kernel
theorem dX6_drop_12 : decode cX6_drop 12 = .ok (.getfield 25, 3) := by decide +kernel
theorem dX6_drop_15 : decode cX6_drop 15 = .ok (.aload_n 0, 1) := by decide +kernel
theorem dX6_drop_16 : decode cX6_drop 16 = .ok (.getfield 10, 3) := by decide +kernel
theorem dX6_drop_19 : decode cX6_drop 19 = .ok (.iload_n 1, 1) := by decide +kernel
theorem dX6_drop_20 : decode cX6_drop 20 = .ok (.iload_n 2, 1) := by decide +kernel
theorem dX6_drop_21 : decode cX6_drop 21 = .ok (.invokevirtual 48, 3) := by decide +kernel
theorem dX6_drop_24 : decode cX6_drop 24 = .ok (.invokevirtual 44, 3) := by decide +kernel
theorem dX6_drop_27 : decode cX6_drop 27 = .ok (.ireturn, 1) := by decide +kernel
set_option maxRecDepth 20000 in
theorem ggX6_change_X1_prepare : GoodIn wsX6_change wsX1_prepare := goodIn_r _ [7, 8, 9, 10, 11, 6, 12, 13, 14, 15, 16, 17, 18, 19, 20, 21, 22, 23, 24, 25, 26, 27, 28, 29, 30, 31, 32, 33, 34, 35, 36, 37, 38, 39, 40, 41, 42, 43, 44, 45, 46, 47, 48, 49, 50, 51, 52, 53, 54, 55, 56, 57, 58, 59, 60, 61, 62, 148, 149, 150, 151, 152, 153, 154, 155, 156, 157, 158, 159, 160, 161, 162, 163, 164, 165, 166, 167, 168] (by decide +kernel) (by decide +kernel)
set_option maxRecDepth 20000 in
theorem gX6_change_X1_prepare : GoodIn wsX6_change (wsV RX6 36 RX1 yX1_prepare wsX1_prepare) := goodIn_app (goodIn_of _ (by decide +kernel)) ggX6_change_X1_prepare
set_option maxRecDepth 20000 in
theorem ggX6_change_X4_rewriteRow : GoodIn wsX6_change wsX4_rewriteRow := goodIn_r _ [66, 20, 22, 67, 68, 69, 30, 70, 34, 71, 36, 72, 73, 74, 75, 76, 77, 78, 79, 80, 81, 82, 32, 83, 84, 85, 86, 33, 87, 88, 89, 17, 90, 23, 91, 92, 93, 94, 21, 95, 96, 97, 49, 98, 51, 52, 53, 99, 100, 101, 102, 103, 104, 105, 106, 107, 108, 109, 110, 111, 24, 112, 113, 114, 57, 115, 59, 116, 117, 118, 119, 120, 121, 122, 123, 124, 125, 126, 127, 128, 129, 130, 131, 132, 151, 152, 153, 154, 155, 156, 157, 158, 159, 160, 161, 162, 163, 164, 165, 166, 167, 168] (by decide +kernel) (by decide +kernel)
set_option maxRecDepth 20000 in
theorem gX6_change_X4_rewriteRow : GoodIn wsX6_change (wsV RX6 52 RX4 yX4_rewriteRow wsX4_rewriteRow) := goodIn_app (goodIn_of _ (by decide +kernel)) ggX6_change_X4_rewriteRow
set_option maxRecDepth 20000 in
theorem ggX6_change_X1_commit : GoodIn wsX6_change wsX1_commit := goodIn_r _ [136, 8, 137, 138, 39, 40, 41, 148, 149, 150] (by decide +kernel) (by decide +kernel)
set_option maxRecDepth 20000 in
theorem gX6_change_X1_commit : GoodIn wsX6_change (wsV RX6 44 RX1 yX1_commit wsX1_commit) := goodIn_app (goodIn_of _ (by decide +kernel)) ggX6_change_X1_commit
theorem dX6_change_0 : decode cX6_change 0 = .ok (.aload_n 0, 1) := by decide +kernel
theorem dX6_change_1 : decode cX6_change 1 = .ok (.getfield 25, 3) := by decide +kernel
theorem dX6_change_4 : decode cX6_change 4 = .ok (.aload_n 0, 1) := by decide +kernel
theorem dX6_change_5 : decode cX6_change 5 = .ok (.getfield 10, 3) := by decide +kernel
theorem dX6_change_8 : decode cX6_change 8 = .ok (.invokevirtual 36, 3) := by decide +kernel
theorem dX6_change_11 : decode cX6_change 11 = .ok (.aload_n 0, 1) := by decide +kernel
theorem dX6_change_12 : decode cX6_change 12 = .ok (.getfield 25, 3) := by decide +kernel
theorem dX6_change_15 : decode cX6_change 15 = .ok (.aload_n 0, 1) := by decide +kernel
theorem dX6_change_16 : decode cX6_change 16 = .ok (.getfield 10, 3) := by decide +kernel
theorem dX6_change_19 : decode cX6_change 19 = .ok (.iload_n 1, 1) := by decide +kernel
theorem dX6_change_20 : decode cX6_change 20 = .ok (.iload_n 2, 1) := by decide +kernel
theorem dX6_change_21 : decode cX6_change 21 = .ok (.iload_n 3, 1) := by decide +kernel
theorem dX6_change_22 : decode cX6_change 22 = .ok (.invokevirtual 52, 3) := by decide +kernel
theorem dX6_change_25 : decode cX6_change 25 = .ok (.invokevirtual 44, 3) := by decide +kernel
theorem dX6_change_28 : decode cX6_change 28 = .ok (.ireturn, 1) := by decide +kernel
set_option maxRecDepth 20000 in
theorem ggX6_step_X1_prepare : GoodIn wsX6_step wsX1_prepare := goodIn_r _ [7, 8, 9, 10, 11, 6, 12, 13, 14, 15, 16, 17, 18, 19, 20, 21, 22, 23, 24, 25, 26, 27, 28, 29, 30, 31, 32, 33, 34, 35, 36, 37, 38, 39, 40, 41, 42, 43, 44, 45, 46, 47, 48, 49, 50, 51, 52, 53, 54, 55, 56, 57, 58, 59, 60, 61, 62, 138, 139, 140, 141, 142, 143, 144, 145, 146, 147, 148, 149, 150, 151, 152, 153, 154, 155, 156, 157, 158] (by decide +kernel) (by decide +kernel)
set_option maxRecDepth 20000 in
theorem gX6_step_X1_prepare : GoodIn wsX6_step (wsV RX6 36 RX1 yX1_prepare wsX1_prepare) := goodIn_app (goodIn_of _ (by decide +kernel)) ggX6_step_X1_prepare
set_option maxRecDepth 20000 in
theorem ggX6_step_X4_walk : GoodIn wsX6_step wsX4_walk := goodIn_r _ [66, 25, 19, 24, 26, 21, 67, 68, 69, 30, 70, 34, 71, 72, 73, 74, 32, 75, 76, 77, 17, 78, 22, 20, 23, 79, 80, 81, 57, 82, 59, 83, 84, 85, 86, 62, 60, 87, 88, 89, 49, 90, 51, 91, 92, 93, 94, 61, 95, 96, 97, 98, 99, 100, 101, 102, 103, 104, 105, 106, 107, 108, 109, 110, 111, 112, 113, 114, 115, 116, 117, 118, 33, 119, 120, 121, 122, 52, 141, 142, 143, 144, 145, 146, 147, 148, 149, 150, 151, 155, 156, 157, 158, 152, 153, 154] (by decide +kernel) (by decide +kernel)
set_option maxRecDepth 20000 in
theorem gX6_step_X4_walk : GoodIn wsX6_step (wsV RX6 56 RX4 yX4_walk wsX4_walk) := goodIn_app (goodIn_of _ (by decide +kernel)) ggX6_step_X4_walk
set_option maxRecDepth 20000 in
theorem ggX6_step_X1_commit : GoodIn wsX6_step wsX1_commit := goodIn_r _ [126, 8, 127, 128, 39, 40, 41, 138, 139, 140] (by decide +kernel) (by decide +kernel)
set_option maxRecDepth 20000 in
theorem gX6_step_X1_commit : GoodIn wsX6_step (wsV RX6 44 RX1 yX1_commit wsX1_commit) := goodIn_app (goodIn_of _ (by decide +kernel)) ggX6_step_X1_commit
theorem dX6_step_0 : decode cX6_step 0 = .ok (.aload_n 0, 1) := by decide +kernel
theorem dX6_step_1 : decode cX6_step 1 = .ok (.getfield 25, 3) := by decide +kernel
theorem dX6_step_4 : decode cX6_step 4 = .ok (.aload_n 0, 1) := by decide +kernel
theorem dX6_step_5 : decode cX6_step 5 = .ok (.getfield 10, 3) := by decide +kernel
theorem dX6_step_8 : decode cX6_step 8 = .ok (.invokevirtual 36, 3) := by decide +kernel
theorem dX6_step_11 : decode cX6_step 11 = .ok (.aload_n 0, 1) := by decide +kernel
theorem dX6_step_12 : decode cX6_step 12 = .ok (.getfield 25, 3) := by decide +kernel
theorem dX6_step_15 : decode cX6_step 15 = .ok (.aload_n 0, 1) := by decide +kernel
theorem dX6_step_16 : decode cX6_step 16 = .ok (.getfield 10, 3) := by decide +kernel
theorem dX6_step_19 : decode cX6_step 19 = .ok (.iload_n 1, 1) := by decide +kernel
theorem dX6_step_20 : decode cX6_step 20 = .ok (.invokevirtual 56, 3) := by decide +kernel
theorem dX6_step_23 : decode cX6_step 23 = .ok (.invokevirtual 44, 3) := by decide +kernel
theorem dX6_step_26 : decode cX6_step 26 = .ok (.ireturn, 1) := by decide +kernel
set_option maxRecDepth 20000 in
theorem ggX6_again_X1_prepare : GoodIn wsX6_again wsX1_prepare := goodIn_r _ [7, 8, 9, 10, 11, 6, 12, 13, 14, 15, 16, 17, 18, 19, 20, 21, 22, 23, 24, 25, 26, 27, 28, 29, 30, 31, 32, 33, 34, 35, 36, 37, 38, 39, 40, 41, 42, 43, 44, 45, 46, 47, 48, 49, 50, 51, 52, 53, 54, 55, 56, 57, 58, 59, 60, 61, 62, 82, 83, 84, 85, 86, 87, 88, 89, 90, 91, 92, 93, 94, 95, 96, 97, 98, 99, 100, 101, 102] (by decide +kernel) (by decide +kernel)
set_option maxRecDepth 20000 in
theorem gX6_again_X1_prepare : GoodIn wsX6_again (wsV RX6 36 RX1 yX1_prepare wsX1_prepare) := goodIn_app (goodIn_of _ (by decide +kernel)) ggX6_again_X1_prepare
set_option maxRecDepth 20000 in
theorem ggX6_again_X4_beginAgain : GoodIn wsX6_again wsX4_beginAgain := goodIn_r _ [66, 26, 25, 85, 86, 87, 88, 89, 90, 91, 92] (by decide +kernel) (by decide +kernel)
set_option maxRecDepth 20000 in
theorem gX6_again_X4_beginAgain : GoodIn wsX6_again (wsV RX6 59 RX4 yX4_beginAgain wsX4_beginAgain) := goodIn_app (goodIn_of _ (by decide +kernel)) ggX6_again_X4_beginAgain
set_option maxRecDepth 20000 in
theorem ggX6_again_X1_commit : GoodIn wsX6_again wsX1_commit := goodIn_r _ [70, 8, 71, 72, 39, 40, 41, 82, 83, 84] (by decide +kernel) (by decide +kernel)
set_option maxRecDepth 20000 in
theorem gX6_again_X1_commit : GoodIn wsX6_again (wsV RX6 44 RX1 yX1_commit wsX1_commit) := goodIn_app (goodIn_of _ (by decide +kernel)) ggX6_again_X1_commit
theorem dX6_again_0 : decode cX6_again 0 = .ok (.aload_n 0, 1) := by decide +kernel
theorem dX6_again_1 : decode cX6_again 1 = .ok (.getfield 25, 3) := by decide +kernel
theorem dX6_again_4 : decode cX6_again 4 = .ok (.aload_n 0, 1) := by decide +kernel
theorem dX6_again_5 : decode cX6_again 5 = .ok (.getfield 10, 3) := by decide +kernel
theorem dX6_again_8 : decode cX6_again 8 = .ok (.invokevirtual 36, 3) := by decide +kernel
theorem dX6_again_11 : decode cX6_again 11 = .ok (.aload_n 0, 1) := by decide +kernel
theorem dX6_again_12 : decode cX6_again 12 = .ok (.getfield 25, 3) := by decide +kernel
theorem dX6_again_15 : decode cX6_again 15 = .ok (.aload_n 0, 1) := by decide +kernel
theorem dX6_again_16 : decode cX6_again 16 = .ok (.getfield 10, 3) := by decide +kernel
theorem dX6_again_19 : decode cX6_again 19 = .ok (.invokevirtual 59, 3) := by decide +kernel
theorem dX6_again_22 : decode cX6_again 22 = .ok (.invokevirtual 44, 3) := by decide +kernel
theorem dX6_again_25 : decode cX6_again 25 = .ok (.ireturn, 1) := by decide +kernel
set_option maxRecDepth 20000 in
theorem ggX6_forget_X1_prepare : GoodIn wsX6_forget wsX1_prepare := goodIn_r _ [7, 8, 9, 10, 11, 6, 12, 13, 14, 15, 16, 17, 18, 19, 20, 21, 22, 23, 24, 25, 26, 27, 28, 29, 30, 31, 32, 33, 34, 35, 36, 37, 38, 39, 40, 41, 42, 43, 44, 45, 46, 47, 48, 49, 50, 51, 52, 53, 54, 55, 56, 57, 58, 59, 60, 61, 62, 90, 91, 92, 93, 94, 95, 96, 97, 98, 99, 100, 101, 102, 103, 104, 105, 106, 107, 108, 109, 110] (by decide +kernel) (by decide +kernel)
set_option maxRecDepth 20000 in
theorem gX6_forget_X1_prepare : GoodIn wsX6_forget (wsV RX6 36 RX1 yX1_prepare wsX1_prepare) := goodIn_app (goodIn_of _ (by decide +kernel)) ggX6_forget_X1_prepare
set_option maxRecDepth 20000 in
theorem ggX6_forget_X4_throwAllOut : GoodIn wsX6_forget wsX4_throwAllOut := goodIn_r _ [66, 22, 24, 67, 68, 69, 57, 70, 59, 71, 72, 73, 74, 93, 94, 95, 96, 97, 98, 99, 100, 107, 108, 109, 110] (by decide +kernel) (by decide +kernel)
set_option maxRecDepth 20000 in
theorem gX6_forget_X4_throwAllOut : GoodIn wsX6_forget (wsV RX6 63 RX4 yX4_throwAllOut wsX4_throwAllOut) := goodIn_app (goodIn_of _ (by decide +kernel)) ggX6_forget_X4_throwAllOut
set_option maxRecDepth 20000 in
theorem ggX6_forget_X1_commit : GoodIn wsX6_forget wsX1_commit := goodIn_r _ [78, 8, 79, 80, 39, 40, 41, 90, 91, 92] (by decide +kernel) (by decide +kernel)
set_option maxRecDepth 20000 in
theorem gX6_forget_X1_commit : GoodIn wsX6_forget (wsV RX6 44 RX1 yX1_commit wsX1_commit) := goodIn_app (goodIn_of _ (by decide +kernel)) ggX6_forget_X1_commit
theorem dX6_forget_0 : decode cX6_forget 0 = .ok (.aload_n 0, 1) := by decide +kernel
theorem dX6_forget_1 : decode cX6_forget 1 = .ok (.getfield 25, 3) := by decide +kernel
theorem dX6_forget_4 : decode cX6_forget 4 = .ok (.aload_n 0, 1) := by decide +kernel
theorem dX6_forget_5 : decode cX6_forget 5 = .ok (.getfield 10, 3) := by decide +kernel
theorem dX6_forget_8 : decode cX6_forget 8 = .ok (.invokevirtual 36, 3) := by decide +kernel
theorem dX6_forget_11 : decode cX6_forget 11 = .ok (.aload_n 0, 1) := by decide +kernel
theorem dX6_forget_12 : decode cX6_forget 12 = .ok (.getfield 25, 3) := by decide +kernel
theorem dX6_forget_15 : decode cX6_forget 15 = .ok (.aload_n 0, 1) := by decide +kernel
theorem dX6_forget_16 : decode cX6_forget 16 = .ok (.getfield 10, 3) := by decide +kernel
theorem dX6_forget_19 : decode cX6_forget 19 = .ok (.invokevirtual 63, 3) := by decide +kernel
theorem dX6_forget_22 : decode cX6_forget 22 = .ok (.invokevirtual 44, 3) := by decide +kernel
theorem dX6_forget_25 : decode cX6_forget 25 = .ok (.ireturn, 1) := by decide +kernel
set_option maxRecDepth 20000 in
theorem ggX6_set_X1_prepare : GoodIn wsX6_set wsX1_prepare := goodIn_r _ [7, 8, 9, 10, 11, 6, 12, 13, 14, 15, 16, 17, 18, 19, 20, 21, 22, 23, 24, 25, 26, 27, 28, 29, 30, 31, 32, 33, 34, 35, 36, 37, 38, 39, 40, 41, 42, 43, 44, 45, 46, 47, 48, 49, 50, 51, 52, 53, 54, 55, 56, 57, 58, 59, 60, 61, 62, 143, 144, 145, 146, 147, 148, 149, 150, 151, 152, 153, 154, 155, 156, 157, 158, 159, 160, 161, 162, 163] (by decide +kernel) (by decide +kernel)
set_option maxRecDepth 20000 in
theorem gX6_set_X1_prepare : GoodIn wsX6_set (wsV RX6 36 RX1 yX1_prepare wsX1_prepare) := goodIn_app (goodIn_of _ (by decide +kernel)) ggX6_set_X1_prepare
set_option maxRecDepth 20000 in
theorem ggX6_set_X4_adjust : GoodIn wsX6_set wsX4_adjust := goodIn_r _ [66, 67, 23, 68, 69, 70, 17, 71, 22, 21, 24, 72, 73, 74, 75, 76, 77, 78, 57, 79, 59, 80, 81, 82, 49, 83, 51, 84, 85, 86, 87, 88, 89, 90, 91, 61, 60, 92, 93, 94, 95, 96, 97, 98, 99, 20, 100, 101, 102, 103, 52, 53, 104, 105, 106, 30, 107, 34, 108, 109, 110, 111, 33, 112, 113, 114, 115, 32, 116, 117, 118, 119, 120, 121, 122, 123, 124, 125, 126, 127, 146, 147, 148, 149, 150, 151, 152, 153, 160, 161, 162, 163, 157, 158, 159, 154, 155, 156] (by decide +kernel) (by decide +kernel)
set_option maxRecDepth 20000 in
theorem gX6_set_X4_adjust : GoodIn wsX6_set (wsV RX6 66 RX4 yX4_adjust wsX4_adjust) := goodIn_app (goodIn_of _ (by decide +kernel)) ggX6_set_X4_adjust
set_option maxRecDepth 20000 in
theorem ggX6_set_X1_commit : GoodIn wsX6_set wsX1_commit := goodIn_r _ [131, 8, 132, 133, 39, 40, 41, 143, 144, 145] (by decide +kernel) (by decide +kernel)
set_option maxRecDepth 20000 in
theorem gX6_set_X1_commit : GoodIn wsX6_set (wsV RX6 44 RX1 yX1_commit wsX1_commit) := goodIn_app (goodIn_of _ (by decide +kernel)) ggX6_set_X1_commit
theorem dX6_set_0 : decode cX6_set 0 = .ok (.aload_n 0, 1) := by decide +kernel
theorem dX6_set_1 : decode cX6_set 1 = .ok (.getfield 25, 3) := by decide +kernel
theorem dX6_set_4 : decode cX6_set 4 = .ok (.aload_n 0, 1) := by decide +kernel
theorem dX6_set_5 : decode cX6_set 5 = .ok (.getfield 10, 3) := by decide +kernel
theorem dX6_set_8 : decode cX6_set 8 = .ok (.invokevirtual 36, 3) := by decide +kernel
theorem dX6_set_11 : decode cX6_set 11 = .ok (.aload_n 0, 1) := by decide +kernel
theorem dX6_set_12 : decode cX6_set 12 = .ok (.getfield 25, 3) := by decide +kernel
theorem dX6_set_15 : decode cX6_set 15 = .ok (.aload_n 0, 1) := by decide +kernel
theorem dX6_set_16 : decode cX6_set 16 = .ok (.getfield 10, 3) := by decide +kernel
theorem dX6_set_19 : decode cX6_set 19 = .ok (.iload_n 1, 1) := by decide +kernel
theorem dX6_set_20 : decode cX6_set 20 = .ok (.iload_n 2, 1) := by decide +kernel
theorem dX6_set_21 : decode cX6_set 21 = .ok (.invokevirtual 66, 3) := by decide +kernel
theorem dX6_set_24 : decode cX6_set 24 = .ok (.invokevirtual 44, 3) := by decide +kernel
theorem dX6_set_27 : decode cX6_set 27 = .ok (.ireturn, 1) := by decide +kernel
set_option maxRecDepth 20000 in
theorem ggX6_row_X4_table : GoodIn wsX6_row wsX4_table := goodIn_r _ [6, 7, 8, 61, 62, 63, 64, 65, 66, 67, 68] (by decide +kernel) (by decide +kernel)
set_option maxRecDepth 20000 in
theorem gX6_row_X4_table : GoodIn wsX6_row (wsV RX6 87 RX4 yX4_table wsX4_table) := goodIn_app (goodIn_of _ (by decide +kernel)) ggX6_row_X4_table
set_option maxRecDepth 20000 in
theorem ggX6_row_X5_has : GoodIn wsX6_row wsX5_has := goodIn_r _ [13, 14, 69, 70, 71] (by decide +kernel) (by decide +kernel)
set_option maxRecDepth 20000 in
theorem gX6_row_X5_has : GoodIn wsX6_row (wsV RX6 131 RX5 yX5_has wsX5_has) := goodIn_app (goodIn_of _ (by decide +kernel)) ggX6_row_X5_has
set_option maxRecDepth 20000 in
theorem ggX6_row_X6_isWithin : GoodIn wsX6_row wsX6_isWithin := goodIn_r _ [18] (by decide +kernel) (by decide +kernel)
set_option maxRecDepth 20000 in
theorem gX6_row_X6_isWithin : GoodIn wsX6_row (va_wsS RX6 76 yX6_isWithin wsX6_isWithin) := goodIn_app (goodIn_of _ (by decide +kernel)) ggX6_row_X6_isWithin
set_option maxRecDepth 20000 in
theorem ggX6_row_X5_key : GoodIn wsX6_row wsX5_key := goodIn_r _ [22, 23, 69, 70, 71] (by decide +kernel) (by decide +kernel)
set_option maxRecDepth 20000 in
theorem gX6_row_X5_key : GoodIn wsX6_row (wsV RX6 135 RX5 yX5_key wsX5_key) := goodIn_app (goodIn_of _ (by decide +kernel)) ggX6_row_X5_key
set_option maxRecDepth 20000 in
theorem ggX6_row_X5_value : GoodIn wsX6_row wsX5_value := goodIn_r _ [27, 28, 69, 70, 71] (by decide +kernel) (by decide +kernel)
set_option maxRecDepth 20000 in
theorem gX6_row_X5_value : GoodIn wsX6_row (wsV RX6 138 RX5 yX5_value wsX5_value) := goodIn_app (goodIn_of _ (by decide +kernel)) ggX6_row_X5_value
set_option maxRecDepth 20000 in
theorem ggX6_row_X4_isInRememberedAnswer : GoodIn wsX6_row wsX4_isInRememberedAnswer := goodIn_r _ [32, 33, 7, 34, 20, 21, 12, 22, 23, 35, 36, 37, 38, 39, 40, 41, 25, 26, 27, 28, 42, 43, 44, 5, 45, 46, 61, 62, 63, 64, 65, 66, 67, 68, 69, 70, 71, 72, 73, 74, 75] (by decide +kernel) (by decide +kernel)
set_option maxRecDepth 20000 in
theorem gX6_row_X4_isInRememberedAnswer : GoodIn wsX6_row (wsV RX6 141 RX4 yX4_isInRememberedAnswer wsX4_isInRememberedAnswer) := goodIn_app (goodIn_of _ (by decide +kernel)) ggX6_row_X4_isInRememberedAnswer
set_option maxRecDepth 20000 in
theorem ggX6_row_X4_isDone : GoodIn wsX6_row wsX4_isDone := goodIn_r _ [50, 51, 61, 62, 63, 64, 65, 66, 67, 68] (by decide +kernel) (by decide +kernel)
set_option maxRecDepth 20000 in
theorem gX6_row_X4_isDone : GoodIn wsX6_row (wsV RX6 144 RX4 yX4_isDone wsX4_isDone) := goodIn_app (goodIn_of _ (by decide +kernel)) ggX6_row_X4_isDone
theorem dX6_row_0 : decode cX6_row 0 = .ok (.aload_n 0, 1) := by decide +kernel
theorem dX6_row_1 : decode cX6_row 1 = .ok (.getfield 10, 3) := by decide +kernel
theorem dX6_row_4 : decode cX6_row 4 = .ok (.iload_n 1, 1) := by decide +kernel
theorem dX6_row_5 : decode cX6_row 5 = .ok (.invokevirtual 87, 3) := by decide +kernel
theorem dX6_row_8 : decode cX6_row 8 = .ok (.astore 4, 2) := by decide +kernel
theorem dX6_row_10 : decode cX6_row 10 = .ok (.aload 4, 2) := by decide +kernel
theorem dX6_row_12 : decode cX6_row 12 = .ok (.iload_n 2, 1) := by decide +kernel
theorem dX6_row_13 : decode cX6_row 13 = .ok (.invokevirtual 131, 3) := by decide +kernel
theorem dX6_row_16 : decode cX6_row 16 = .ok (.ifCond .eq 11, 3) := by decide +kernel
theorem dX6_row_19 : decode cX6_row 19 = .ok (.iload_n 3, 1) := by decide +kernel
theorem dX6_row_20 : decode cX6_row 20 = .ok (.iconst 2, 1) := by decide +kernel
theorem dX6_row_21 : decode cX6_row 21 = .ok (.invokestatic 76, 3) := by decide +kernel
theorem dX6_row_24 : decode cX6_row 24 = .ok (.ifCond .ne 5, 3) := by decide +kernel
theorem dX6_row_27 : decode cX6_row 27 = .ok (.iconst (-1), 1) := by decide +kernel
theorem dX6_row_28 : decode cX6_row 28 = .ok (.ireturn, 1) := by decide +kernel
theorem dX6_row_29 : decode cX6_row 29 = .ok (.iload_n 3, 1) := by decide +kernel
theorem dX6_row_30 : decode cX6_row 30 = .ok (.lookupswitch 40 #[(0, 26), (1, 33)], 26) := by decide +kernel
theorem dX6_row_56 : decode cX6_row 56 = .ok (.aload 4, 2) := by decide +kernel
theorem dX6_row_58 : decode cX6_row 58 = .ok (.iload_n 2, 1) := by decide +kernel
theorem dX6_row_59 : decode cX6_row 59 = .ok (.invokevirtual 135, 3) := by decide +kernel
theorem dX6_row_62 : decode cX6_row 62 = .ok (.ireturn, 1) := by decide +kernel
theorem dX6_row_63 : decode cX6_row 63 = .ok (.aload 4, 2) := by decide +kernel
theorem dX6_row_65 : decode cX6_row 65 = .ok (.iload_n 2, 1) := by decide +kernel
theorem dX6_row_66 : decode cX6_row 66 = .ok (.invokevirtual 138, 3) := by decide +kernel
theorem dX6_row_69 : decode cX6_row 69 = .ok (.ireturn, 1) := by decide +kernel
theorem dX6_row_70 : decode cX6_row 70 = .ok (.iload_n 1, 1) := by decide +kernel
theorem dX6_row_71 : decode cX6_row 71 = .ok (.ifCond .eq 17, 3) := by decide +kernel
theorem dX6_row_74 : decode cX6_row 74 = .ok (.aload_n 0, 1) := by decide +kernel
theorem dX6_row_75 : decode cX6_row 75 = .ok (.getfield 10, 3) := by decide +kernel
theorem dX6_row_78 : decode cX6_row 78 = .ok (.iload_n 2, 1) := by decide +kernel
theorem dX6_row_79 : decode cX6_row 79 = .ok (.invokevirtual 141, 3) := by decide +kernel
theorem dX6_row_82 : decode cX6_row 82 = .ok (.ifCond .eq 21, 3) := by decide +kernel
theorem dX6_row_85 : decode cX6_row 85 = .ok (.goto 14, 3) := by decide +kernel
theorem dX6_row_88 : decode cX6_row 88 = .ok (.aload_n 0, 1) := by decide +kernel
theorem dX6_row_89 : decode cX6_row 89 = .ok (.getfield 10, 3) := by decide +kernel
theorem dX6_row_92 : decode cX6_row 92 = .ok (.iload_n 2, 1) := by decide +kernel
theorem dX6_row_93 : decode cX6_row 93 = .ok (.invokevirtual 144, 3) := by decide +kernel
theorem dX6_row_96 : decode cX6_row 96 = .ok (.ifCond .eq 7, 3) := by decide +kernel
theorem dX6_row_99 : decode cX6_row 99 = .ok (.iconst 1, 1) := by decide +kernel
theorem dX6_row_100 : decode cX6_row 100 = .ok (.goto 4, 3) := by decide +kernel
theorem dX6_row_103 : decode cX6_row 103 = .ok (.iconst 0, 1) := by decide +kernel
theorem dX6_row_104 : decode cX6_row 104 = .ok (.ireturn, 1) := by decide +kernel
set_option maxRecDepth 20000 in
theorem ggX6_answer_X6_isKey : GoodIn wsX6_answer wsX6_isKey := goodIn_r _ [5, 6, 7, 4, 8] (by decide +kernel) (by decide +kernel)
set_option maxRecDepth 20000 in
theorem gX6_answer_X6_isKey : GoodIn wsX6_answer (va_wsS RX6 147 yX6_isKey wsX6_isKey) := goodIn_app (goodIn_of _ (by decide +kernel)) ggX6_answer_X6_isKey
set_option maxRecDepth 20000 in
theorem ggX6_answer_X6_isWithin : GoodIn wsX6_answer wsX6_isWithin := goodIn_r _ [8] (by decide +kernel) (by decide +kernel)
set_option maxRecDepth 20000 in
theorem gX6_answer_X6_isWithin : GoodIn wsX6_answer (va_wsS RX6 76 yX6_isWithin wsX6_isWithin) := goodIn_app (goodIn_of _ (by decide +kernel)) ggX6_answer_X6_isWithin
set_option maxRecDepth 20000 in
theorem ggX6_answer_X4_answers : GoodIn wsX6_answer wsX4_answers := goodIn_r _ [13, 14, 36, 37, 38, 39, 40, 41, 42, 43] (by decide +kernel) (by decide +kernel)
set_option maxRecDepth 20000 in
theorem gX6_answer_X4_answers : GoodIn wsX6_answer (wsV RX6 150 RX4 yX4_answers wsX4_answers) := goodIn_app (goodIn_of _ (by decide +kernel)) ggX6_answer_X4_answers
set_option maxRecDepth 20000 in
theorem ggX6_answer_X0_tell : GoodIn wsX6_answer wsX0_tell := goodIn_r _ [19, 20, 21, 22, 23, 24, 25, 18, 26, 44, 45, 46] (by decide +kernel) (by decide +kernel)
set_option maxRecDepth 20000 in
theorem gX6_answer_X0_tell : GoodIn wsX6_answer (wsV RX6 154 RX0 yX0_tell wsX0_tell) := goodIn_app (goodIn_of _ (by decide +kernel)) ggX6_answer_X0_tell
theorem dX6_answer_0 : decode cX6_answer 0 = .ok (.iload_n 1, 1) := by decide +kernel
theorem dX6_answer_1 : decode cX6_answer 1 = .ok (.invokestatic 147, 3) := by decide +kernel
theorem dX6_answer_4 : decode cX6_answer 4 = .ok (.ifCond .eq 26, 3) := by decide +kernel
theorem dX6_answer_7 : decode cX6_answer 7 = .ok (.iload_n 2, 1) := by decide +kernel
theorem dX6_answer_8 : decode cX6_answer 8 = .ok (.iconst 3, 1) := by decide +kernel
theorem dX6_answer_9 : decode cX6_answer 9 = .ok (.invokestatic 76, 3) := by decide +kernel
theorem dX6_answer_12 : decode cX6_answer 12 = .ok (.ifCond .eq 18, 3) := by decide +kernel
theorem dX6_answer_15 : decode cX6_answer 15 = .ok (.aload_n 0, 1) := by decide +kernel
theorem dX6_answer_16 : decode cX6_answer 16 = .ok (.getfield 10, 3) := by decide +kernel
theorem dX6_answer_19 : decode cX6_answer 19 = .ok (.invokevirtual 150, 3) := by decide +kernel
theorem dX6_answer_22 : decode cX6_answer 22 = .ok (.iload_n 1, 1) := by decide +kernel
theorem dX6_answer_23 : decode cX6_answer 23 = .ok (.iload_n 2, 1) := by decide +kernel
theorem dX6_answer_24 : decode cX6_answer 24 = .ok (.invokevirtual 154, 3) := by decide +kernel
theorem dX6_answer_27 : decode cX6_answer 27 = .ok (.goto 4, 3) := by decide +kernel
theorem dX6_answer_30 : decode cX6_answer 30 = .ok (.iconst (-1), 1) := by decide +kernel
theorem dX6_answer_31 : decode cX6_answer 31 = .ok (.ireturn, 1) := by decide +kernel
set_option maxRecDepth 20000 in
theorem ggX6_remembered_X6_isKey : GoodIn wsX6_remembered wsX6_isKey := goodIn_r _ [5, 6, 7, 4, 8] (by decide +kernel) (by decide +kernel)
set_option maxRecDepth 20000 in
theorem gX6_remembered_X6_isKey : GoodIn wsX6_remembered (va_wsS RX6 147 yX6_isKey wsX6_isKey) := goodIn_app (goodIn_of _ (by decide +kernel)) ggX6_remembered_X6_isKey
set_option maxRecDepth 20000 in
theorem ggX6_remembered_X6_isWithin : GoodIn wsX6_remembered wsX6_isWithin := goodIn_r _ [8] (by decide +kernel) (by decide +kernel)
set_option maxRecDepth 20000 in
theorem gX6_remembered_X6_isWithin : GoodIn wsX6_remembered (va_wsS RX6 76 yX6_isWithin wsX6_isWithin) := goodIn_app (goodIn_of _ (by decide +kernel)) ggX6_remembered_X6_isWithin
set_option maxRecDepth 20000 in
theorem ggX6_remembered_X4_memo : GoodIn wsX6_remembered wsX4_memo := goodIn_r _ [13, 14, 66, 67, 68, 69, 70, 71, 72, 73] (by decide +kernel) (by decide +kernel)
set_option maxRecDepth 20000 in
theorem gX6_remembered_X4_memo : GoodIn wsX6_remembered (wsV RX6 159 RX4 yX4_memo wsX4_memo) := goodIn_app (goodIn_of _ (by decide +kernel)) ggX6_remembered_X4_memo
set_option maxRecDepth 20000 in
theorem ggX6_remembered_X2_holds : GoodIn wsX6_remembered wsX2_holds := goodIn_r _ [19, 20, 74, 75, 76, 77] (by decide +kernel) (by decide +kernel)
set_option maxRecDepth 20000 in
theorem gX6_remembered_X2_holds : GoodIn wsX6_remembered (wsV RX6 163 RX2 yX2_holds wsX2_holds) := goodIn_app (goodIn_of _ (by decide +kernel)) ggX6_remembered_X2_holds
set_option maxRecDepth 20000 in
theorem ggX6_remembered_X2_uses : GoodIn wsX6_remembered wsX2_uses := goodIn_r _ [24, 20, 74, 75, 76, 77] (by decide +kernel) (by decide +kernel)
set_option maxRecDepth 20000 in
theorem gX6_remembered_X2_uses : GoodIn wsX6_remembered (wsV RX6 168 RX2 yX2_uses wsX2_uses) := goodIn_app (goodIn_of _ (by decide +kernel)) ggX6_remembered_X2_uses
set_option maxRecDepth 20000 in
theorem ggX6_remembered_X4_setting : GoodIn wsX6_remembered wsX4_setting := goodIn_r _ [28, 29, 66, 67, 68, 69, 70, 71, 72, 73] (by decide +kernel) (by decide +kernel)
set_option maxRecDepth 20000 in
theorem gX6_remembered_X4_setting : GoodIn wsX6_remembered (wsV RX6 171 RX4 yX4_setting wsX4_setting) := goodIn_app (goodIn_of _ (by decide +kernel)) ggX6_remembered_X4_setting
set_option maxRecDepth 20000 in
theorem ggX6_remembered_X2_placeOf : GoodIn wsX6_remembered wsX2_placeOf := goodIn_r _ [33, 20, 34, 35, 36, 18, 37, 38, 39, 74, 75, 76, 77] (by decide +kernel) (by decide +kernel)
set_option maxRecDepth 20000 in
theorem gX6_remembered_X2_placeOf : GoodIn wsX6_remembered (wsV RX6 174 RX2 yX2_placeOf wsX2_placeOf) := goodIn_app (goodIn_of _ (by decide +kernel)) ggX6_remembered_X2_placeOf
set_option maxRecDepth 20000 in
theorem ggX6_remembered_X4_answers : GoodIn wsX6_remembered wsX4_answers := goodIn_r _ [43, 44, 66, 67, 68, 69, 70, 71, 72, 73] (by decide +kernel) (by decide +kernel)
set_option maxRecDepth 20000 in
theorem gX6_remembered_X4_answers : GoodIn wsX6_remembered (wsV RX6 150 RX4 yX4_answers wsX4_answers) := goodIn_app (goodIn_of _ (by decide +kernel)) ggX6_remembered_X4_answers
set_option maxRecDepth 20000 in
theorem ggX6_remembered_X0_tell : GoodIn wsX6_remembered wsX0_tell := goodIn_r _ [49, 50, 51, 52, 53, 54, 55, 48, 56, 78, 79, 80] (by decide +kernel) (by decide +kernel)
set_option maxRecDepth 20000 in
theorem gX6_remembered_X0_tell : GoodIn wsX6_remembered (wsV RX6 154 RX0 yX0_tell wsX0_tell) := goodIn_app (goodIn_of _ (by decide +kernel)) ggX6_remembered_X0_tell
theorem dX6_remembered_0 : decode cX6_remembered 0 = .ok (.iload_n 1, 1) := by decide +kernel
theorem dX6_remembered_1 : decode cX6_remembered 1 = .ok (.invokestatic 147, 3) := by decide +kernel
theorem dX6_remembered_4 : decode cX6_remembered 4 = .ok (.ifCond .eq 11, 3) := by decide +kernel
theorem dX6_remembered_7 : decode cX6_remembered 7 = .ok (.iload_n 2, 1) := by decide +kernel
theorem dX6_remembered_8 : decode cX6_remembered 8 = .ok (.iconst 5, 1) := by decide +kernel
theorem dX6_remembered_9 : decode cX6_remembered 9 = .ok (.invokestatic 76, 3) := by decide +kernel
theorem dX6_remembered_12 : decode cX6_remembered 12 = .ok (.ifCond .ne 5, 3) := by decide +kernel
theorem dX6_remembered_15 : decode cX6_remembered 15 = .ok (.iconst (-1), 1) := by decide +kernel
theorem dX6_remembered_16 : decode cX6_remembered 16 = .ok (.ireturn, 1) := by decide +kernel
theorem dX6_remembered_17 : decode cX6_remembered 17 = .ok (.aload_n 0, 1) := by decide +kernel
theorem dX6_remembered_18 : decode cX6_remembered 18 = .ok (.getfield 10, 3) := by decide +kernel
theorem dX6_remembered_21 : decode cX6_remembered 21 = .ok (.invokevirtual 159, 3) := by decide +kernel
theorem dX6_remembered_24 : decode cX6_remembered 24 = .ok (.iload_n 1, 1) := by decide +kernel
theorem dX6_remembered_25 : decode cX6_remembered 25 = .ok (.invokevirtual 163, 3) := by decide +kernel
theorem dX6_remembered_28 : decode cX6_remembered 28 = .ok (.ifCond .ne 6, 3) := by decide +kernel
theorem dX6_remembered_31 : decode cX6_remembered 31 = .ok (.bipush (-4), 2) := by decide +kernel
theorem dX6_remembered_33 : decode cX6_remembered 33 = .ok (.ireturn, 1) := by decide +kernel
theorem dX6_remembered_34 : decode cX6_remembered 34 = .ok (.iload_n 2, 1) := by decide +kernel
theorem dX6_remembered_35 : decode cX6_remembered 35 = .ok (.lookupswitch 57 #[(4, 25), (5, 37)], 25) := by decide +kernel
theorem dX6_remembered_60 : decode cX6_remembered 60 = .ok (.aload_n 0, 1) := by decide +kernel
theorem dX6_remembered_61 : decode cX6_remembered 61 = .ok (.getfield 10, 3) := by decide +kernel
theorem dX6_remembered_64 : decode cX6_remembered 64 = .ok (.invokevirtual 159, 3) := by decide +kernel
theorem dX6_remembered_67 : decode cX6_remembered 67 = .ok (.iload_n 1, 1) := by decide +kernel
theorem dX6_remembered_68 : decode cX6_remembered 68 = .ok (.invokevirtual 168, 3) := by decide +kernel
theorem dX6_remembered_71 : decode cX6_remembered 71 = .ok (.ireturn, 1) := by decide +kernel
theorem dX6_remembered_72 : decode cX6_remembered 72 = .ok (.aload_n 0, 1) := by decide +kernel
theorem dX6_remembered_73 : decode cX6_remembered 73 = .ok (.getfield 10, 3) := by decide +kernel
theorem dX6_remembered_76 : decode cX6_remembered 76 = .ok (.invokevirtual 159, 3) := by decide +kernel
theorem dX6_remembered_79 : decode cX6_remembered 79 = .ok (.iload_n 1, 1) := by decide +kernel
theorem dX6_remembered_80 : decode cX6_remembered 80 = .ok (.aload_n 0, 1) := by decide +kernel
theorem dX6_remembered_81 : decode cX6_remembered 81 = .ok (.getfield 10, 3) := by decide +kernel
theorem dX6_remembered_84 : decode cX6_remembered 84 = .ok (.iconst 1, 1) := by decide +kernel
theorem dX6_remembered_85 : decode cX6_remembered 85 = .ok (.invokevirtual 171, 3) := by decide +kernel
theorem dX6_remembered_88 : decode cX6_remembered 88 = .ok (.invokevirtual 174, 3) := by decide +kernel
theorem dX6_remembered_91 : decode cX6_remembered 91 = .ok (.ireturn, 1) := by decide +kernel
theorem dX6_remembered_92 : decode cX6_remembered 92 = .ok (.aload_n 0, 1) := by decide +kernel
theorem dX6_remembered_93 : decode cX6_remembered 93 = .ok (.getfield 10, 3) := by decide +kernel
theorem dX6_remembered_96 : decode cX6_remembered 96 = .ok (.invokevirtual 150, 3) := by decide +kernel
theorem dX6_remembered_99 : decode cX6_remembered 99 = .ok (.iload_n 1, 1) := by decide +kernel
theorem dX6_remembered_100 : decode cX6_remembered 100 = .ok (.iload_n 2, 1) := by decide +kernel
theorem dX6_remembered_101 : decode cX6_remembered 101 = .ok (.invokevirtual 154, 3) := by decide +kernel
theorem dX6_remembered_104 : decode cX6_remembered 104 = .ok (.ireturn, 1) := by decide +kernel
set_option maxRecDepth 20000 in
theorem ggX6_count_X4_table : GoodIn wsX6_count wsX4_table := goodIn_r _ [8, 9, 10, 88, 89, 90, 91, 92, 93, 94, 95] (by decide +kernel) (by decide +kernel)
set_option maxRecDepth 20000 in
theorem gX6_count_X4_table : GoodIn wsX6_count (wsV RX6 87 RX4 yX4_table wsX4_table) := goodIn_app (goodIn_of _ (by decide +kernel)) ggX6_count_X4_table
set_option maxRecDepth 20000 in
theorem ggX6_count_X5_size : GoodIn wsX6_count wsX5_size := goodIn_r _ [15, 16, 96, 97, 98] (by decide +kernel) (by decide +kernel)
set_option maxRecDepth 20000 in
theorem gX6_count_X5_size : GoodIn wsX6_count (wsV RX6 91 RX5 yX5_size wsX5_size) := goodIn_app (goodIn_of _ (by decide +kernel)) ggX6_count_X5_size
set_option maxRecDepth 20000 in
theorem ggX6_count_X4_memo : GoodIn wsX6_count wsX4_memo := goodIn_r _ [20, 21, 88, 89, 90, 91, 92, 93, 94, 95] (by decide +kernel) (by decide +kernel)
set_option maxRecDepth 20000 in
theorem gX6_count_X4_memo : GoodIn wsX6_count (wsV RX6 159 RX4 yX4_memo wsX4_memo) := goodIn_app (goodIn_of _ (by decide +kernel)) ggX6_count_X4_memo
set_option maxRecDepth 20000 in
theorem ggX6_count_X2_size : GoodIn wsX6_count wsX2_size := goodIn_r _ [26, 27, 99, 100, 101, 102] (by decide +kernel) (by decide +kernel)
set_option maxRecDepth 20000 in
theorem gX6_count_X2_size : GoodIn wsX6_count (wsV RX6 177 RX2 yX2_size wsX2_size) := goodIn_app (goodIn_of _ (by decide +kernel)) ggX6_count_X2_size
set_option maxRecDepth 20000 in
theorem ggX6_count_X4_weightTogether : GoodIn wsX6_count wsX4_weightTogether := goodIn_r _ [31, 21, 32, 33, 34, 35, 25, 36, 27, 37, 38, 39, 40, 41, 42, 88, 89, 90, 91, 92, 93, 94, 95, 99, 100, 101, 102, 103, 104, 105] (by decide +kernel) (by decide +kernel)
set_option maxRecDepth 20000 in
theorem gX6_count_X4_weightTogether : GoodIn wsX6_count (wsV RX6 178 RX4 yX4_weightTogether wsX4_weightTogether) := goodIn_app (goodIn_of _ (by decide +kernel)) ggX6_count_X4_weightTogether
set_option maxRecDepth 20000 in
theorem ggX6_count_X4_place : GoodIn wsX6_count wsX4_place := goodIn_r _ [46, 47, 88, 89, 90, 91, 92, 93, 94, 95] (by decide +kernel) (by decide +kernel)
set_option maxRecDepth 20000 in
theorem gX6_count_X4_place : GoodIn wsX6_count (wsV RX6 181 RX4 yX4_place wsX4_place) := goodIn_app (goodIn_of _ (by decide +kernel)) ggX6_count_X4_place
set_option maxRecDepth 20000 in
theorem ggX6_count_X4_totalSoFar : GoodIn wsX6_count wsX4_totalSoFar := goodIn_r _ [51, 52, 88, 89, 90, 91, 92, 93, 94, 95] (by decide +kernel) (by decide +kernel)
set_option maxRecDepth 20000 in
theorem gX6_count_X4_totalSoFar : GoodIn wsX6_count (wsV RX6 184 RX4 yX4_totalSoFar wsX4_totalSoFar) := goodIn_app (goodIn_of _ (by decide +kernel)) ggX6_count_X4_totalSoFar
set_option maxRecDepth 20000 in
theorem ggX6_count_X4_setting : GoodIn wsX6_count wsX4_setting := goodIn_r _ [56, 57, 88, 89, 90, 91, 92, 93, 94, 95] (by decide +kernel) (by decide +kernel)
set_option maxRecDepth 20000 in
theorem gX6_count_X4_setting : GoodIn wsX6_count (wsV RX6 171 RX4 yX4_setting wsX4_setting) := goodIn_app (goodIn_of _ (by decide +kernel)) ggX6_count_X4_setting
set_option maxRecDepth 20000 in
theorem ggX6_count_X3_size : GoodIn wsX6_count wsX3_size := goodIn_r _ [62, 63, 106, 107, 108, 109, 110, 111, 112, 113, 114] (by decide +kernel) (by decide +kernel)
set_option maxRecDepth 20000 in
theorem gX6_count_X3_size : GoodIn wsX6_count (wsV RX6 187 RX3 yX3_size wsX3_size) := goodIn_app (goodIn_of _ (by decide +kernel)) ggX6_count_X3_size
set_option maxRecDepth 20000 in
theorem ggX6_count_X1_size : GoodIn wsX6_count wsX1_size := goodIn_r _ [68, 69, 115, 116, 117] (by decide +kernel) (by decide +kernel)
set_option maxRecDepth 20000 in
theorem gX6_count_X1_size : GoodIn wsX6_count (wsV RX6 188 RX1 yX1_size wsX1_size) := goodIn_app (goodIn_of _ (by decide +kernel)) ggX6_count_X1_size
set_option maxRecDepth 20000 in
theorem ggX6_count_X6_isWithin : GoodIn wsX6_count wsX6_isWithin := goodIn_r _ [73] (by decide +kernel) (by decide +kernel)
set_option maxRecDepth 20000 in
theorem gX6_count_X6_isWithin : GoodIn wsX6_count (va_wsS RX6 76 yX6_isWithin wsX6_isWithin) := goodIn_app (goodIn_of _ (by decide +kernel)) ggX6_count_X6_isWithin
set_option maxRecDepth 20000 in
theorem ggX6_count_X4_tally : GoodIn wsX6_count wsX4_tally := goodIn_r _ [77, 78, 88, 89, 90, 91, 92, 93, 94, 95] (by decide +kernel) (by decide +kernel)
set_option maxRecDepth 20000 in
theorem gX6_count_X4_tally : GoodIn wsX6_count (wsV RX6 189 RX4 yX4_tally wsX4_tally) := goodIn_app (goodIn_of _ (by decide +kernel)) ggX6_count_X4_tally
theorem dX6_count_0 : decode cX6_count 0 = .ok (.iload_n 1, 1) := by decide +kernel
theorem dX6_count_1 : decode cX6_count 1 = .ok (.tableswitch 182 0 19 #[95, 107, 119, 130, 138, 146, 182, 182, 182, 182, 182, 182, 182, 154, 154, 154, 154, 154, 166, 174], 95) := by decide +kernel
theorem dX6_count_96 : decode cX6_count 96 = .ok (.aload_n 0, 1) := by decide +kernel
theorem dX6_count_97 : decode cX6_count 97 = .ok (.getfield 10, 3) := by decide +kernel
theorem dX6_count_100 : decode cX6_count 100 = .ok (.iconst 0, 1) := by decide +kernel
theorem dX6_count_101 : decode cX6_count 101 = .ok (.invokevirtual 87, 3) := by decide +kernel
theorem dX6_count_104 : decode cX6_count 104 = .ok (.invokevirtual 91, 3) := by decide +kernel
theorem dX6_count_107 : decode cX6_count 107 = .ok (.ireturn, 1) := by decide +kernel
theorem dX6_count_108 : decode cX6_count 108 = .ok (.aload_n 0, 1) := by decide +kernel
theorem dX6_count_109 : decode cX6_count 109 = .ok (.getfield 10, 3) := by decide +kernel
theorem dX6_count_112 : decode cX6_count 112 = .ok (.iconst 1, 1) := by decide +kernel
theorem dX6_count_113 : decode cX6_count 113 = .ok (.invokevirtual 87, 3) := by decide +kernel
theorem dX6_count_116 : decode cX6_count 116 = .ok (.invokevirtual 91, 3) := by decide +kernel
theorem dX6_count_119 : decode cX6_count 119 = .ok (.ireturn, 1) := by decide +kernel
theorem dX6_count_120 : decode cX6_count 120 = .ok (.aload_n 0, 1) := by decide +kernel
theorem dX6_count_121 : decode cX6_count 121 = .ok (.getfield 10, 3) := by decide +kernel
theorem dX6_count_124 : decode cX6_count 124 = .ok (.invokevirtual 159, 3) := by decide +kernel
theorem dX6_count_127 : decode cX6_count 127 = .ok (.invokevirtual 177, 3) := by decide +kernel
theorem dX6_count_130 : decode cX6_count 130 = .ok (.ireturn, 1) := by decide +kernel
theorem dX6_count_131 : decode cX6_count 131 = .ok (.aload_n 0, 1) := by decide +kernel
theorem dX6_count_132 : decode cX6_count 132 = .ok (.getfield 10, 3) := by decide +kernel
theorem dX6_count_135 : decode cX6_count 135 = .ok (.invokevirtual 178, 3) := by decide +kernel
theorem dX6_count_138 : decode cX6_count 138 = .ok (.ireturn, 1) := by decide +kernel
theorem dX6_count_139 : decode cX6_count 139 = .ok (.aload_n 0, 1) := by decide +kernel
theorem dX6_count_140 : decode cX6_count 140 = .ok (.getfield 10, 3) := by decide +kernel
theorem dX6_count_143 : decode cX6_count 143 = .ok (.invokevirtual 181, 3) := by decide +kernel
theorem dX6_count_146 : decode cX6_count 146 = .ok (.ireturn, 1) := by decide +kernel
theorem dX6_count_147 : decode cX6_count 147 = .ok (.aload_n 0, 1) := by decide +kernel
theorem dX6_count_148 : decode cX6_count 148 = .ok (.getfield 10, 3) := by decide +kernel
theorem dX6_count_151 : decode cX6_count 151 = .ok (.invokevirtual 184, 3) := by decide +kernel
theorem dX6_count_154 : decode cX6_count 154 = .ok (.ireturn, 1) := by decide +kernel
theorem dX6_count_155 : decode cX6_count 155 = .ok (.aload_n 0, 1) := by decide +kernel
theorem dX6_count_156 : decode cX6_count 156 = .ok (.getfield 10, 3) := by decide +kernel
theorem dX6_count_159 : decode cX6_count 159 = .ok (.iload_n 1, 1) := by decide +kernel
theorem dX6_count_160 : decode cX6_count 160 = .ok (.bipush 13, 2) := by decide +kernel
theorem dX6_count_162 : decode cX6_count 162 = .ok (.isub, 1) := by decide +kernel
theorem dX6_count_163 : decode cX6_count 163 = .ok (.invokevirtual 171, 3) := by decide +kernel
theorem dX6_count_166 : decode cX6_count 166 = .ok (.ireturn, 1) := by decide +kernel
theorem dX6_count_167 : decode cX6_count 167 = .ok (.aload_n 0, 1) := by decide +kernel
theorem dX6_count_168 : decode cX6_count 168 = .ok (.getfield 32, 3) := by decide +kernel
theorem dX6_count_171 : decode cX6_count 171 = .ok (.invokevirtual 187, 3) := by decide +kernel
theorem dX6_count_174 : decode cX6_count 174 = .ok (.ireturn, 1) := by decide +kernel
theorem dX6_count_175 : decode cX6_count 175 = .ok (.aload_n 0, 1) := by decide +kernel
theorem dX6_count_176 : decode cX6_count 176 = .ok (.getfield 25, 3) := by decide +kernel
theorem dX6_count_179 : decode cX6_count 179 = .ok (.invokevirtual 188, 3) := by decide +kernel
theorem dX6_count_182 : decode cX6_count 182 = .ok (.ireturn, 1) := by decide +kernel
theorem dX6_count_183 : decode cX6_count 183 = .ok (.iload_n 1, 1) := by decide +kernel
theorem dX6_count_184 : decode cX6_count 184 = .ok (.bipush 19, 2) := by decide +kernel
theorem dX6_count_186 : decode cX6_count 186 = .ok (.invokestatic 76, 3) := by decide +kernel
theorem dX6_count_189 : decode cX6_count 189 = .ok (.ifCond .eq 17, 3) := by decide +kernel
theorem dX6_count_192 : decode cX6_count 192 = .ok (.aload_n 0, 1) := by decide +kernel
theorem dX6_count_193 : decode cX6_count 193 = .ok (.getfield 10, 3) := by decide +kernel
theorem dX6_count_196 : decode cX6_count 196 = .ok (.iload_n 1, 1) := by decide +kernel
theorem dX6_count_197 : decode cX6_count 197 = .ok (.bipush 6, 2) := by decide +kernel
theorem dX6_count_199 : decode cX6_count 199 = .ok (.isub, 1) := by decide +kernel
theorem dX6_count_200 : decode cX6_count 200 = .ok (.invokevirtual 189, 3) := by decide +kernel
theorem dX6_count_203 : decode cX6_count 203 = .ok (.goto 4, 3) := by decide +kernel
theorem dX6_count_206 : decode cX6_count 206 = .ok (.iconst (-1), 1) := by decide +kernel
theorem dX6_count_207 : decode cX6_count 207 = .ok (.ireturn, 1) := by decide +kernel
set_option maxRecDepth 20000 in
theorem ggX6_total_X6_isWithin : GoodIn wsX6_total wsX6_isWithin := goodIn_r _ [5] (by decide +kernel) (by decide +kernel)
set_option maxRecDepth 20000 in
theorem gX6_total_X6_isWithin : GoodIn wsX6_total (va_wsS RX6 76 yX6_isWithin wsX6_isWithin) := goodIn_app (goodIn_of _ (by decide +kernel)) ggX6_total_X6_isWithin
set_option maxRecDepth 20000 in
theorem ggX6_total_X4_totalByAnswers : GoodIn wsX6_total wsX4_totalByAnswers := goodIn_r _ [10, 11, 12, 13, 14, 15, 16, 17, 18, 19, 20, 21, 22, 23, 24, 25, 26, 27, 28, 29, 30, 31, 32, 33, 34, 54, 55, 56, 57, 58, 59, 60, 61, 62, 63, 64, 65, 66, 67] (by decide +kernel) (by decide +kernel)
set_option maxRecDepth 20000 in
theorem gX6_total_X4_totalByAnswers : GoodIn wsX6_total (wsV RX6 192 RX4 yX4_totalByAnswers wsX4_totalByAnswers) := goodIn_app (goodIn_of _ (by decide +kernel)) ggX6_total_X4_totalByAnswers
set_option maxRecDepth 20000 in
theorem ggX6_total_X4_totalByRows : GoodIn wsX6_total wsX4_totalByRows := goodIn_r _ [38, 11, 39, 13, 14, 15, 16, 17, 18, 24, 25, 26, 27, 28, 19, 20, 21, 22, 23, 40, 41, 42, 9, 43, 44, 54, 55, 56, 57, 58, 59, 60, 61, 62, 63, 64] (by decide +kernel) (by decide +kernel)
set_option maxRecDepth 20000 in
theorem gX6_total_X4_totalByRows : GoodIn wsX6_total (wsV RX6 195 RX4 yX4_totalByRows wsX4_totalByRows) := goodIn_app (goodIn_of _ (by decide +kernel)) ggX6_total_X4_totalByRows
theorem dX6_total_0 : decode cX6_total 0 = .ok (.iload_n 1, 1) := by decide +kernel
theorem dX6_total_1 : decode cX6_total 1 = .ok (.iconst 1, 1) := by decide +kernel
theorem dX6_total_2 : decode cX6_total 2 = .ok (.invokestatic 76, 3) := by decide +kernel
theorem dX6_total_5 : decode cX6_total 5 = .ok (.ifCond .ne 5, 3) := by decide +kernel
theorem dX6_total_8 : decode cX6_total 8 = .ok (.iconst (-1), 1) := by decide +kernel
theorem dX6_total_9 : decode cX6_total 9 = .ok (.ireturn, 1) := by decide +kernel
theorem dX6_total_10 : decode cX6_total 10 = .ok (.iload_n 1, 1) := by decide +kernel
theorem dX6_total_11 : decode cX6_total 11 = .ok (.ifCond .ne 13, 3) := by decide +kernel
theorem dX6_total_14 : decode cX6_total 14 = .ok (.aload_n 0, 1) := by decide +kernel
theorem dX6_total_15 : decode cX6_total 15 = .ok (.getfield 10, 3) := by decide +kernel
theorem dX6_total_18 : decode cX6_total 18 = .ok (.invokevirtual 192, 3) := by decide +kernel
theorem dX6_total_21 : decode cX6_total 21 = .ok (.goto 10, 3) := by decide +kernel
theorem dX6_total_24 : decode cX6_total 24 = .ok (.aload_n 0, 1) := by decide +kernel
theorem dX6_total_25 : decode cX6_total 25 = .ok (.getfield 10, 3) := by decide +kernel
theorem dX6_total_28 : decode cX6_total 28 = .ok (.invokevirtual 195, 3) := by decide +kernel
theorem dX6_total_31 : decode cX6_total 31 = .ok (.ireturn, 1) := by decide +kernel
set_option maxRecDepth 20000 in
theorem ggX6_rate_X4_tally : GoodIn wsX6_rate wsX4_tally := goodIn_r _ [6, 7, 17, 18, 19, 20, 21, 22, 23, 24] (by decide +kernel) (by decide +kernel)
set_option maxRecDepth 20000 in
theorem gX6_rate_X4_tally : GoodIn wsX6_rate (wsV RX6 189 RX4 yX4_tally wsX4_tally) := goodIn_app (goodIn_of _ (by decide +kernel)) ggX6_rate_X4_tally
theorem dX6_rate_0 : decode cX6_rate 0 = .ok (.aload_n 0, 1) := by decide +kernel
theorem dX6_rate_1 : decode cX6_rate 1 = .ok (.getfield 10, 3) := by decide +kernel
theorem dX6_rate_4 : decode cX6_rate 4 = .ok (.iconst 0, 1) := by decide +kernel
theorem dX6_rate_5 : decode cX6_rate 5 = .ok (.invokevirtual 189, 3) := by decide +kernel
theorem dX6_rate_8 : decode cX6_rate 8 = .ok (.istore_n 1, 1) := by decide +kernel
theorem dX6_rate_9 : decode cX6_rate 9 = .ok (.iload_n 1, 1) := by decide +kernel
theorem dX6_rate_10 : decode cX6_rate 10 = .ok (.aload_n 0, 1) := by decide +kernel
theorem dX6_rate_11 : decode cX6_rate 11 = .ok (.getfield 10, 3) := by decide +kernel
theorem dX6_rate_14 : decode cX6_rate 14 = .ok (.iconst 1, 1) := by decide +kernel
theorem dX6_rate_15 : decode cX6_rate 15 = .ok (.invokevirtual 189, 3) := by decide +kernel
theorem dX6_rate_18 : decode cX6_rate 18 = .ok (.iadd, 1) := by decide +kernel
theorem dX6_rate_19 : decode cX6_rate 19 = .ok (.istore_n 2, 1) := by decide +kernel
theorem dX6_rate_20 : decode cX6_rate 20 = .ok (.iload_n 2, 1) := by decide +kernel
theorem dX6_rate_21 : decode cX6_rate 21 = .ok (.ifCond .ne 7, 3) := by decide +kernel
theorem dX6_rate_24 : decode cX6_rate 24 = .ok (.dconst 0, 1) := by decide +kernel
theorem dX6_rate_25 : decode cX6_rate 25 = .ok (.goto 8, 3) := by decide +kernel
theorem dX6_rate_28 : decode cX6_rate 28 = .ok (.iload_n 1, 1) := by decide +kernel
theorem dX6_rate_29 : decode cX6_rate 29 = .ok (.i2d, 1) := by decide +kernel
theorem dX6_rate_30 : decode cX6_rate 30 = .ok (.iload_n 2, 1) := by decide +kernel
theorem dX6_rate_31 : decode cX6_rate 31 = .ok (.i2d, 1) := by decide +kernel
theorem dX6_rate_32 : decode cX6_rate 32 = .ok (.ddiv, 1) := by decide +kernel
theorem dX6_rate_33 : decode cX6_rate 33 = .ok (.dreturn, 1) := by decide +kernel
theorem dX6_isWithin_0 : decode cX6_isWithin 0 = .ok (.iload_n 0, 1) := by decide +kernel
theorem dX6_isWithin_1 : decode cX6_isWithin 1 = .ok (.ifCond .lt 12, 3) := by decide +kernel
theorem dX6_isWithin_4 : decode cX6_isWithin 4 = .ok (.iload_n 0, 1) := by decide +kernel
theorem dX6_isWithin_5 : decode cX6_isWithin 5 = .ok (.iload_n 1, 1) := by decide +kernel
theorem dX6_isWithin_6 : decode cX6_isWithin 6 = .ok (.if_icmp .gt 7, 3) := by decide +kernel
theorem dX6_isWithin_9 : decode cX6_isWithin 9 = .ok (.iconst 1, 1) := by decide +kernel
theorem dX6_isWithin_10 : decode cX6_isWithin 10 = .ok (.goto 4, 3) := by decide +kernel
theorem dX6_isWithin_13 : decode cX6_isWithin 13 = .ok (.iconst 0, 1) := by decide +kernel
theorem dX6_isWithin_14 : decode cX6_isWithin 14 = .ok (.ireturn, 1) := by decide +kernel
set_option maxRecDepth 20000 in
theorem ggX6_isKey_X6_isWithin : GoodIn wsX6_isKey wsX6_isWithin := goodIn_r _ [4] (by decide +kernel) (by decide +kernel)
set_option maxRecDepth 20000 in
theorem gX6_isKey_X6_isWithin : GoodIn wsX6_isKey (va_wsS RX6 76 yX6_isWithin wsX6_isWithin) := goodIn_app (goodIn_of _ (by decide +kernel)) ggX6_isKey_X6_isWithin
theorem dX6_isKey_0 : decode cX6_isKey 0 = .ok (.iload_n 0, 1) := by decide +kernel
theorem dX6_isKey_1 : decode cX6_isKey 1 = .ok (.bipush 9, 2) := by decide +kernel
theorem dX6_isKey_3 : decode cX6_isKey 3 = .ok (.invokestatic 76, 3) := by decide +kernel
theorem dX6_isKey_6 : decode cX6_isKey 6 = .ok (.ireturn, 1) := by decide +kernel
set_option maxRecDepth 20000 in
theorem ggX6_isRow_X6_isKey : GoodIn wsX6_isRow wsX6_isKey := goodIn_r _ [4, 5, 6, 3, 7] (by decide +kernel) (by decide +kernel)
set_option maxRecDepth 20000 in
theorem gX6_isRow_X6_isKey : GoodIn wsX6_isRow (va_wsS RX6 147 yX6_isKey wsX6_isKey) := goodIn_app (goodIn_of _ (by decide +kernel)) ggX6_isRow_X6_isKey
set_option maxRecDepth 20000 in
theorem ggX6_isRow_X6_isWithin : GoodIn wsX6_isRow wsX6_isWithin := goodIn_r _ [7] (by decide +kernel) (by decide +kernel)
set_option maxRecDepth 20000 in
theorem gX6_isRow_X6_isWithin : GoodIn wsX6_isRow (va_wsS RX6 76 yX6_isWithin wsX6_isWithin) := goodIn_app (goodIn_of _ (by decide +kernel)) ggX6_isRow_X6_isWithin
theorem dX6_isRow_0 : decode cX6_isRow 0 = .ok (.iload_n 0, 1) := by decide +kernel
theorem dX6_isRow_1 : decode cX6_isRow 1 = .ok (.invokestatic 147, 3) := by decide +kernel
theorem dX6_isRow_4 : decode cX6_isRow 4 = .ok (.ifCond .eq 16, 3) := by decide +kernel
theorem dX6_isRow_7 : decode cX6_isRow 7 = .ok (.iload_n 1, 1) := by decide +kernel
theorem dX6_isRow_8 : decode cX6_isRow 8 = .ok (.bipush 99, 2) := by decide +kernel
theorem dX6_isRow_10 : decode cX6_isRow 10 = .ok (.invokestatic 76, 3) := by decide +kernel
theorem dX6_isRow_13 : decode cX6_isRow 13 = .ok (.ifCond .eq 7, 3) := by decide +kernel
theorem dX6_isRow_16 : decode cX6_isRow 16 = .ok (.iconst 1, 1) := by decide +kernel
theorem dX6_isRow_17 : decode cX6_isRow 17 = .ok (.goto 4, 3) := by decide +kernel
theorem dX6_isRow_20 : decode cX6_isRow 20 = .ok (.iconst 0, 1) := by decide +kernel
theorem dX6_isRow_21 : decode cX6_isRow 21 = .ok (.ireturn, 1) := by decide +kernel
theorem dX6_copyNumbers_0 : decode cX6_copyNumbers 0 = .ok (.aload_n 0, 1) := by decide +kernel
theorem dX6_copyNumbers_1 : decode cX6_copyNumbers 1 = .ok (.iconst 0, 1) := by decide +kernel
theorem dX6_copyNumbers_2 : decode cX6_copyNumbers 2 = .ok (.aload_n 1, 1) := by decide +kernel
theorem dX6_copyNumbers_3 : decode cX6_copyNumbers 3 = .ok (.iconst 0, 1) := by decide +kernel
theorem dX6_copyNumbers_4 : decode cX6_copyNumbers 4 = .ok (.aload_n 0, 1) := by decide +kernel
theorem dX6_copyNumbers_5 : decode cX6_copyNumbers 5 = .ok (.arraylength, 1) := by decide +kernel
theorem dX6_copyNumbers_6 : decode cX6_copyNumbers 6 = .ok (.aload_n 1, 1) := by decide +kernel
theorem dX6_copyNumbers_7 : decode cX6_copyNumbers 7 = .ok (.arraylength, 1) := by decide +kernel
theorem dX6_copyNumbers_8 : decode cX6_copyNumbers 8 = .ok (.invokestatic 117, 3) := by decide +kernel
theorem dX6_copyNumbers_11 : decode cX6_copyNumbers 11 = .ok (.invokestatic 225, 3) := by decide +kernel
theorem dX6_copyNumbers_14 : decode cX6_copyNumbers 14 = .ok (.return_, 1) := by decide +kernel
theorem dJ9_min_7cf53_0 : decode cJ9_min_7cf53 0 = .ok (.iload_n 0, 1) := by decide +kernel
theorem dJ9_min_7cf53_1 : decode cJ9_min_7cf53 1 = .ok (.iload_n 1, 1) := by decide +kernel
theorem dJ9_min_7cf53_2 : decode cJ9_min_7cf53 2 = .ok (.if_icmp .gt 7, 3) := by decide +kernel
theorem dJ9_min_7cf53_5 : decode cJ9_min_7cf53 5 = .ok (.iload_n 0, 1) := by decide +kernel
theorem dJ9_min_7cf53_6 : decode cJ9_min_7cf53 6 = .ok (.goto 4, 3) := by decide +kernel
theorem dJ9_min_7cf53_9 : decode cJ9_min_7cf53 9 = .ok (.iload_n 1, 1) := by decide +kernel
theorem dJ9_min_7cf53_10 : decode cJ9_min_7cf53 10 = .ok (.ireturn, 1) := by decide +kernel
abbrev vwCl : List vw_C := [(RX0, TX0, 3), (RX1, TX1, 3), (RX2, TX2, 4), (RX3, TX3, 9), (RX4, TX4, 8), (RX5, TX5, 3), (RX6, TX6, 9)]

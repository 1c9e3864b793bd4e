theorem dX7_drop_160 : decode cX7_drop 160 = .ok (.isub, 1) := by decide +kernel
theorem dX7_drop_161 : decode cX7_drop 161 = .ok (.iastore, 1) := by decide +kernel
theorem dX7_drop_162 : decode cX7_drop 162 = .ok (.aload_n 0, 1) := by decide +kernel
theorem dX7_drop_163 : decode cX7_drop 163 = .ok (.getfield 7, 3) := by decide +kernel
theorem dX7_drop_166 : decode cX7_drop 166 = .ok (.iload 4, 2) := by decide +kernel
theorem dX7_drop_168 : decode cX7_drop 168 = .ok (.iaload, 1) := by decide +kernel
theorem dX7_drop_169 : decode cX7_drop 169 = .ok (.ireturn, 1) := by decide +kernel
set_option maxRecDepth 20000 in
theorem ggX7_change_X7_isInner : GoodIn wsX7_change wsX7_isInner := goodIn_r _ [6, 1, 7, 8, 5, 9, 44, 45, 46, 47, 48, 49, 50, 51, 52, 53, 54, 55, 56, 57] (by decide +kernel) (by decide +kernel)
set_option maxRecDepth 20000 in
theorem gX7_change_X7_isInner : GoodIn wsX7_change (wsV RX7 103 RX7 yX7_isInner wsX7_isInner) := goodIn_app (goodIn_of _ (by decide +kernel)) ggX7_change_X7_isInner
set_option maxRecDepth 20000 in
theorem ggX7_change_X7_isRowOf : GoodIn wsX7_change wsX7_isRowOf := goodIn_r _ [12, 7, 8, 5, 9] (by decide +kernel) (by decide +kernel)
set_option maxRecDepth 20000 in
theorem gX7_change_X7_isRowOf : GoodIn wsX7_change (va_wsS RX7 93 yX7_isRowOf wsX7_isRowOf) := goodIn_app (goodIn_of _ (by decide +kernel)) ggX7_change_X7_isRowOf
set_option maxRecDepth 20000 in
theorem ggX7_change_X7_changes : GoodIn wsX7_change wsX7_changes := goodIn_r _ [16, 17, 18, 19, 1, 44, 45, 46, 47, 48, 49, 50, 51, 52, 53, 54, 55, 56, 57] (by decide +kernel) (by decide +kernel)
set_option maxRecDepth 20000 in
theorem gX7_change_X7_changes : GoodIn wsX7_change (wsV RX7 96 RX7 yX7_changes wsX7_changes) := goodIn_app (goodIn_of _ (by decide +kernel)) ggX7_change_X7_changes
set_option maxRecDepth 20000 in
theorem ggX7_change_X7_innerKey : GoodIn wsX7_change wsX7_innerKey := goodIn_r _ [23, 1, 44, 45, 46, 47, 48, 49, 50, 51, 52, 53, 54, 55, 56, 57] (by decide +kernel) (by decide +kernel)
set_option maxRecDepth 20000 in
theorem gX7_change_X7_innerKey : GoodIn wsX7_change (wsV RX7 43 RX7 yX7_innerKey wsX7_innerKey) := goodIn_app (goodIn_of _ (by decide +kernel)) ggX7_change_X7_innerKey
set_option maxRecDepth 20000 in
theorem ggX7_change_X7_keeps : GoodIn wsX7_change wsX7_keeps := goodIn_r _ [27, 1, 28, 29, 30, 5, 31, 32, 33, 34, 35, 36, 37, 38, 39, 44, 45, 46, 47, 48, 49, 50, 51, 52, 53, 54, 55, 56, 57] (by decide +kernel) (by decide +kernel)
set_option maxRecDepth 20000 in
theorem gX7_change_X7_keeps : GoodIn wsX7_change (wsV RX7 89 RX7 yX7_keeps wsX7_keeps) := goodIn_app (goodIn_of _ (by decide +kernel)) ggX7_change_X7_keeps
set_option maxRecDepth 20000 in
theorem ggX7_change_X7_known : GoodIn wsX7_change wsX7_known := goodIn_r _ [43, 36, 37, 38, 5, 39, 1, 44, 45, 46, 47, 48, 49, 50, 51, 52, 53, 54, 55, 56, 57] (by decide +kernel) (by decide +kernel)
set_option maxRecDepth 20000 in
theorem gX7_change_X7_known : GoodIn wsX7_change (wsV RX7 109 RX7 yX7_known wsX7_known) := goodIn_app (goodIn_of _ (by decide +kernel)) ggX7_change_X7_known
theorem dX7_change_0 : decode cX7_change 0 = .ok (.aload_n 0, 1) := by decide +kernel
theorem dX7_change_1 : decode cX7_change 1 = .ok (.iload_n 1, 1) := by decide +kernel
theorem dX7_change_2 : decode cX7_change 2 = .ok (.invokevirtual 103, 3) := by decide +kernel
theorem dX7_change_5 : decode cX7_change 5 = .ok (.ifCond .eq 11, 3) := by decide +kernel
theorem dX7_change_8 : decode cX7_change 8 = .ok (.iload_n 2, 1) := by decide +kernel
theorem dX7_change_9 : decode cX7_change 9 = .ok (.iload_n 3, 1) := by decide +kernel
theorem dX7_change_10 : decode cX7_change 10 = .ok (.invokestatic 93, 3) := by decide +kernel
theorem dX7_change_13 : decode cX7_change 13 = .ok (.ifCond .ne 5, 3) := by decide +kernel
theorem dX7_change_16 : decode cX7_change 16 = .ok (.iconst (-1), 1) := by decide +kernel
theorem dX7_change_17 : decode cX7_change 17 = .ok (.ireturn, 1) := by decide +kernel
theorem dX7_change_18 : decode cX7_change 18 = .ok (.aload_n 0, 1) := by decide +kernel
theorem dX7_change_19 : decode cX7_change 19 = .ok (.invokevirtual 96, 3) := by decide +kernel
theorem dX7_change_22 : decode cX7_change 22 = .ok (.aload_n 0, 1) := by decide +kernel
theorem dX7_change_23 : decode cX7_change 23 = .ok (.iload_n 1, 1) := by decide +kernel
theorem dX7_change_24 : decode cX7_change 24 = .ok (.invokevirtual 43, 3) := by decide +kernel
theorem dX7_change_27 : decode cX7_change 27 = .ok (.istore 4, 2) := by decide +kernel
theorem dX7_change_29 : decode cX7_change 29 = .ok (.aload_n 0, 1) := by decide +kernel
theorem dX7_change_30 : decode cX7_change 30 = .ok (.getfield 7, 3) := by decide +kernel
theorem dX7_change_33 : decode cX7_change 33 = .ok (.bipush 17, 2) := by decide +kernel
theorem dX7_change_35 : decode cX7_change 35 = .ok (.iconst 2, 1) := by decide +kernel
theorem dX7_change_36 : decode cX7_change 36 = .ok (.iload_n 1, 1) := by decide +kernel
theorem dX7_change_37 : decode cX7_change 37 = .ok (.imul, 1) := by decide +kernel
theorem dX7_change_38 : decode cX7_change 38 = .ok (.iadd, 1) := by decide +kernel
theorem dX7_change_39 : decode cX7_change 39 = .ok (.iload_n 2, 1) := by decide +kernel
theorem dX7_change_40 : decode cX7_change 40 = .ok (.iastore, 1) := by decide +kernel
theorem dX7_change_41 : decode cX7_change 41 = .ok (.aload_n 0, 1) := by decide +kernel
theorem dX7_change_42 : decode cX7_change 42 = .ok (.getfield 7, 3) := by decide +kernel
theorem dX7_change_45 : decode cX7_change 45 = .ok (.bipush 17, 2) := by decide +kernel
theorem dX7_change_47 : decode cX7_change 47 = .ok (.iconst 2, 1) := by decide +kernel
theorem dX7_change_48 : decode cX7_change 48 = .ok (.iload_n 1, 1) := by decide +kernel
theorem dX7_change_49 : decode cX7_change 49 = .ok (.imul, 1) := by decide +kernel
theorem dX7_change_50 : decode cX7_change 50 = .ok (.iadd, 1) := by decide +kernel
theorem dX7_change_51 : decode cX7_change 51 = .ok (.iconst 1, 1) := by decide +kernel
theorem dX7_change_52 : decode cX7_change 52 = .ok (.iadd, 1) := by decide +kernel
theorem dX7_change_53 : decode cX7_change 53 = .ok (.iload_n 3, 1) := by decide +kernel
theorem dX7_change_54 : decode cX7_change 54 = .ok (.iastore, 1) := by decide +kernel
theorem dX7_change_55 : decode cX7_change 55 = .ok (.aload_n 0, 1) := by decide +kernel
theorem dX7_change_56 : decode cX7_change 56 = .ok (.iload 4, 2) := by decide +kernel
theorem dX7_change_58 : decode cX7_change 58 = .ok (.iload_n 2, 1) := by decide +kernel
theorem dX7_change_59 : decode cX7_change 59 = .ok (.invokevirtual 89, 3) := by decide +kernel
theorem dX7_change_62 : decode cX7_change 62 = .ok (.aload_n 0, 1) := by decide +kernel
theorem dX7_change_63 : decode cX7_change 63 = .ok (.invokevirtual 109, 3) := by decide +kernel
theorem dX7_change_66 : decode cX7_change 66 = .ok (.ireturn, 1) := by decide +kernel
set_option maxRecDepth 20000 in
theorem ggX7_steps_X7_looks : GoodIn wsX7_steps wsX7_looks := goodIn_r _ [6, 1, 7, 8, 9, 5, 10, 11, 12, 13, 14, 15, 16, 17, 18, 19, 20, 21, 22, 23, 24, 25, 26, 27, 28, 29, 30, 31, 32, 33, 34, 35, 36, 37, 38, 39, 40, 41, 42, 43, 44, 45, 46, 47, 48, 49, 54, 55, 56, 57, 58, 59, 60, 61, 62, 63, 64, 65, 66, 67] (by decide +kernel) (by decide +kernel)
set_option maxRecDepth 20000 in
theorem gX7_steps_X7_looks : GoodIn wsX7_steps (wsV RX7 112 RX7 yX7_looks wsX7_looks) := goodIn_app (goodIn_of _ (by decide +kernel)) ggX7_steps_X7_looks
set_option maxRecDepth 20000 in
theorem ggX7_steps_X7_sum : GoodIn wsX7_steps wsX7_sum := goodIn_r _ [53, 1, 19, 20, 21, 5, 22, 23, 24, 25, 26, 27, 28, 29, 30, 31, 32, 33, 54, 55, 56, 57, 58, 59, 60, 61, 62, 63, 64, 65, 66, 67] (by decide +kernel) (by decide +kernel)
set_option maxRecDepth 20000 in
theorem gX7_steps_X7_sum : GoodIn wsX7_steps (wsV RX7 60 RX7 yX7_sum wsX7_sum) := goodIn_app (goodIn_of _ (by decide +kernel)) ggX7_steps_X7_sum
theorem dX7_steps_0 : decode cX7_steps 0 = .ok (.iconst 0, 1) := by decide +kernel
theorem dX7_steps_1 : decode cX7_steps 1 = .ok (.istore_n 2, 1) := by decide +kernel
theorem dX7_steps_2 : decode cX7_steps 2 = .ok (.iconst 0, 1) := by decide +kernel
theorem dX7_steps_3 : decode cX7_steps 3 = .ok (.istore_n 3, 1) := by decide +kernel
theorem dX7_steps_4 : decode cX7_steps 4 = .ok (.iload_n 3, 1) := by decide +kernel
theorem dX7_steps_5 : decode cX7_steps 5 = .ok (.iload_n 1, 1) := by decide +kernel
theorem dX7_steps_6 : decode cX7_steps 6 = .ok (.if_icmp .ge 101, 3) := by decide +kernel
theorem dX7_steps_9 : decode cX7_steps 9 = .ok (.aload_n 0, 1) := by decide +kernel
theorem dX7_steps_10 : decode cX7_steps 10 = .ok (.getfield 7, 3) := by decide +kernel
theorem dX7_steps_13 : decode cX7_steps 13 = .ok (.bipush 7, 2) := by decide +kernel
theorem dX7_steps_15 : decode cX7_steps 15 = .ok (.iaload, 1) := by decide +kernel
theorem dX7_steps_16 : decode cX7_steps 16 = .ok (.aload_n 0, 1) := by decide +kernel
theorem dX7_steps_17 : decode cX7_steps 17 = .ok (.getfield 7, 3) := by decide +kernel
theorem dX7_steps_20 : decode cX7_steps 20 = .ok (.bipush 6, 2) := by decide +kernel
theorem dX7_steps_22 : decode cX7_steps 22 = .ok (.iaload, 1) := by decide +kernel
theorem dX7_steps_23 : decode cX7_steps 23 = .ok (.if_icmp .ge 84, 3) := by decide +kernel
theorem dX7_steps_26 : decode cX7_steps 26 = .ok (.aload_n 0, 1) := by decide +kernel
theorem dX7_steps_27 : decode cX7_steps 27 = .ok (.getfield 7, 3) := by decide +kernel
theorem dX7_steps_30 : decode cX7_steps 30 = .ok (.bipush 57, 2) := by decide +kernel
theorem dX7_steps_32 : decode cX7_steps 32 = .ok (.iconst 2, 1) := by decide +kernel
theorem dX7_steps_33 : decode cX7_steps 33 = .ok (.aload_n 0, 1) := by decide +kernel
theorem dX7_steps_34 : decode cX7_steps 34 = .ok (.getfield 7, 3) := by decide +kernel
theorem dX7_steps_37 : decode cX7_steps 37 = .ok (.bipush 7, 2) := by decide +kernel
theorem dX7_steps_39 : decode cX7_steps 39 = .ok (.iaload, 1) := by decide +kernel
theorem dX7_steps_40 : decode cX7_steps 40 = .ok (.imul, 1) := by decide +kernel
theorem dX7_steps_41 : decode cX7_steps 41 = .ok (.iadd, 1) := by decide +kernel
theorem dX7_steps_42 : decode cX7_steps 42 = .ok (.iaload, 1) := by decide +kernel
theorem dX7_steps_43 : decode cX7_steps 43 = .ok (.istore 4, 2) := by decide +kernel
theorem dX7_steps_45 : decode cX7_steps 45 = .ok (.iload_n 2, 1) := by decide +kernel
theorem dX7_steps_46 : decode cX7_steps 46 = .ok (.aload_n 0, 1) := by decide +kernel
theorem dX7_steps_47 : decode cX7_steps 47 = .ok (.iload 4, 2) := by decide +kernel
theorem dX7_steps_49 : decode cX7_steps 49 = .ok (.invokevirtual 112, 3) := by decide +kernel
theorem dX7_steps_52 : decode cX7_steps 52 = .ok (.iadd, 1) := by decide +kernel
theorem dX7_steps_53 : decode cX7_steps 53 = .ok (.istore_n 2, 1) := by decide +kernel
theorem dX7_steps_54 : decode cX7_steps 54 = .ok (.aload_n 0, 1) := by decide +kernel
theorem dX7_steps_55 : decode cX7_steps 55 = .ok (.getfield 7, 3) := by decide +kernel
theorem dX7_steps_58 : decode cX7_steps 58 = .ok (.bipush 8, 2) := by decide +kernel
theorem dX7_steps_60 : decode cX7_steps 60 = .ok (.dup2, 1) := by decide +kernel
theorem dX7_steps_61 : decode cX7_steps 61 = .ok (.iaload, 1) := by decide +kernel
theorem dX7_steps_62 : decode cX7_steps 62 = .ok (.aload_n 0, 1) := by decide +kernel
theorem dX7_steps_63 : decode cX7_steps 63 = .ok (.getfield 7, 3) := by decide +kernel
theorem dX7_steps_66 : decode cX7_steps 66 = .ok (.bipush 57, 2) := by decide +kernel
theorem dX7_steps_68 : decode cX7_steps 68 = .ok (.iconst 2, 1) := by decide +kernel
theorem dX7_steps_69 : decode cX7_steps 69 = .ok (.aload_n 0, 1) := by decide +kernel
theorem dX7_steps_70 : decode cX7_steps 70 = .ok (.getfield 7, 3) := by decide +kernel
theorem dX7_steps_73 : decode cX7_steps 73 = .ok (.bipush 7, 2) := by decide +kernel
theorem dX7_steps_75 : decode cX7_steps 75 = .ok (.iaload, 1) := by decide +kernel
theorem dX7_steps_76 : decode cX7_steps 76 = .ok (.imul, 1) := by decide +kernel
theorem dX7_steps_77 : decode cX7_steps 77 = .ok (.iadd, 1) := by decide +kernel
theorem dX7_steps_78 : decode cX7_steps 78 = .ok (.iconst 1, 1) := by decide +kernel
theorem dX7_steps_79 : decode cX7_steps 79 = .ok (.iadd, 1) := by decide +kernel
theorem dX7_steps_80 : decode cX7_steps 80 = .ok (.iaload, 1) := by decide +kernel
theorem dX7_steps_81 : decode cX7_steps 81 = .ok (.aload_n 0, 1) := by decide +kernel
theorem dX7_steps_82 : decode cX7_steps 82 = .ok (.iload 4, 2) := by decide +kernel
theorem dX7_steps_84 : decode cX7_steps 84 = .ok (.invokevirtual 60, 3) := by decide +kernel
theorem dX7_steps_87 : decode cX7_steps 87 = .ok (.imul, 1) := by decide +kernel
theorem dX7_steps_88 : decode cX7_steps 88 = .ok (.iadd, 1) := by decide +kernel
theorem dX7_steps_89 : decode cX7_steps 89 = .ok (.iastore, 1) := by decide +kernel
theorem dX7_steps_90 : decode cX7_steps 90 = .ok (.aload_n 0, 1) := by decide +kernel
theorem dX7_steps_91 : decode cX7_steps 91 = .ok (.getfield 7, 3) := by decide +kernel
theorem dX7_steps_94 : decode cX7_steps 94 = .ok (.bipush 7, 2) := by decide +kernel
theorem dX7_steps_96 : decode cX7_steps 96 = .ok (.dup2, 1) := by decide +kernel
theorem dX7_steps_97 : decode cX7_steps 97 = .ok (.iaload, 1) := by decide +kernel
theorem dX7_steps_98 : decode cX7_steps 98 = .ok (.iconst 1, 1) := by decide +kernel
theorem dX7_steps_99 : decode cX7_steps 99 = .ok (.iadd, 1) := by decide +kernel
theorem dX7_steps_100 : decode cX7_steps 100 = .ok (.iastore, 1) := by decide +kernel
theorem dX7_steps_101 : decode cX7_steps 101 = .ok (.iinc 3 1, 3) := by decide +kernel
theorem dX7_steps_104 : decode cX7_steps 104 = .ok (.goto (-100), 3) := by decide +kernel
theorem dX7_steps_107 : decode cX7_steps 107 = .ok (.aload_n 0, 1) := by decide +kernel
theorem dX7_steps_108 : decode cX7_steps 108 = .ok (.getfield 7, 3) := by decide +kernel
theorem dX7_steps_111 : decode cX7_steps 111 = .ok (.bipush 11, 2) := by decide +kernel
theorem dX7_steps_113 : decode cX7_steps 113 = .ok (.dup2, 1) := by decide +kernel
theorem dX7_steps_114 : decode cX7_steps 114 = .ok (.iaload, 1) := by decide +kernel
theorem dX7_steps_115 : decode cX7_steps 115 = .ok (.iload_n 2, 1) := by decide +kernel
theorem dX7_steps_116 : decode cX7_steps 116 = .ok (.iadd, 1) := by decide +kernel
theorem dX7_steps_117 : decode cX7_steps 117 = .ok (.iastore, 1) := by decide +kernel
theorem dX7_steps_118 : decode cX7_steps 118 = .ok (.iload_n 2, 1) := by decide +kernel
theorem dX7_steps_119 : decode cX7_steps 119 = .ok (.ireturn, 1) := by decide +kernel
set_option maxRecDepth 20000 in
theorem ggX7_step_X7_in : GoodIn wsX7_step wsX7_in := goodIn_r _ [5] (by decide +kernel) (by decide +kernel)
set_option maxRecDepth 20000 in
theorem gX7_step_X7_in : GoodIn wsX7_step (va_wsS RX7 39 yX7_in wsX7_in) := goodIn_app (goodIn_of _ (by decide +kernel)) ggX7_step_X7_in
set_option maxRecDepth 20000 in
theorem ggX7_step_X7_changes : GoodIn wsX7_step wsX7_changes := goodIn_r _ [9, 10, 11, 12, 1, 65, 66, 67, 68, 69, 70, 71, 72, 73, 74, 75, 76, 77, 78] (by decide +kernel) (by decide +kernel)
set_option maxRecDepth 20000 in
theorem gX7_step_X7_changes : GoodIn wsX7_step (wsV RX7 96 RX7 yX7_changes wsX7_changes) := goodIn_app (goodIn_of _ (by decide +kernel)) ggX7_step_X7_changes
set_option maxRecDepth 20000 in
theorem ggX7_step_X7_steps : GoodIn wsX7_step wsX7_steps := goodIn_r _ [16, 1, 17, 18, 19, 4, 20, 21, 22, 23, 24, 25, 26, 27, 28, 29, 30, 31, 32, 33, 34, 35, 36, 37, 38, 39, 40, 41, 42, 43, 44, 2, 3, 5, 45, 46, 47, 48, 49, 50, 51, 52, 53, 54, 55, 56, 57, 58, 59, 60, 61, 62, 63, 64, 65, 66, 67, 68, 69, 70, 71, 72, 73, 74, 75, 76, 77, 78] (by decide +kernel) (by decide +kernel)
set_option maxRecDepth 20000 in
theorem gX7_step_X7_steps : GoodIn wsX7_step (wsV RX7 115 RX7 yX7_steps wsX7_steps) := goodIn_app (goodIn_of _ (by decide +kernel)) ggX7_step_X7_steps
theorem dX7_step_0 : decode cX7_step 0 = .ok (.iload_n 1, 1) := by decide +kernel
theorem dX7_step_1 : decode cX7_step 1 = .ok (.iconst 1, 1) := by decide +kernel
theorem dX7_step_2 : decode cX7_step 2 = .ok (.bipush 20, 2) := by decide +kernel
theorem dX7_step_4 : decode cX7_step 4 = .ok (.invokestatic 39, 3) := by decide +kernel
theorem dX7_step_7 : decode cX7_step 7 = .ok (.ifCond .ne 5, 3) := by decide +kernel
theorem dX7_step_10 : decode cX7_step 10 = .ok (.iconst (-1), 1) := by decide +kernel
theorem dX7_step_11 : decode cX7_step 11 = .ok (.ireturn, 1) := by decide +kernel
theorem dX7_step_12 : decode cX7_step 12 = .ok (.aload_n 0, 1) := by decide +kernel
theorem dX7_step_13 : decode cX7_step 13 = .ok (.getfield 7, 3) := by decide +kernel
theorem dX7_step_16 : decode cX7_step 16 = .ok (.bipush 7, 2) := by decide +kernel
theorem dX7_step_18 : decode cX7_step 18 = .ok (.iaload, 1) := by decide +kernel
theorem dX7_step_19 : decode cX7_step 19 = .ok (.aload_n 0, 1) := by decide +kernel
theorem dX7_step_20 : decode cX7_step 20 = .ok (.getfield 7, 3) := by decide +kernel
theorem dX7_step_23 : decode cX7_step 23 = .ok (.bipush 6, 2) := by decide +kernel
theorem dX7_step_25 : decode cX7_step 25 = .ok (.iaload, 1) := by decide +kernel
theorem dX7_step_26 : decode cX7_step 26 = .ok (.if_icmp .ne 6, 3) := by decide +kernel
theorem dX7_step_29 : decode cX7_step 29 = .ok (.bipush (-2), 2) := by decide +kernel
theorem dX7_step_31 : decode cX7_step 31 = .ok (.ireturn, 1) := by decide +kernel
theorem dX7_step_32 : decode cX7_step 32 = .ok (.aload_n 0, 1) := by decide +kernel
theorem dX7_step_33 : decode cX7_step 33 = .ok (.invokevirtual 96, 3) := by decide +kernel
theorem dX7_step_36 : decode cX7_step 36 = .ok (.aload_n 0, 1) := by decide +kernel
theorem dX7_step_37 : decode cX7_step 37 = .ok (.iload_n 1, 1) := by decide +kernel
theorem dX7_step_38 : decode cX7_step 38 = .ok (.invokevirtual 115, 3) := by decide +kernel
theorem dX7_step_41 : decode cX7_step 41 = .ok (.ireturn, 1) := by decide +kernel
set_option maxRecDepth 20000 in
theorem ggX7_again_X7_changes : GoodIn wsX7_again wsX7_changes := goodIn_r _ [6, 7, 8, 9, 1, 10, 11, 12, 13, 14, 15, 16, 17, 18, 19, 20, 21, 22, 23] (by decide +kernel) (by decide +kernel)
set_option maxRecDepth 20000 in
theorem gX7_again_X7_changes : GoodIn wsX7_again (wsV RX7 96 RX7 yX7_changes wsX7_changes) := goodIn_app (goodIn_of _ (by decide +kernel)) ggX7_again_X7_changes
theorem dX7_again_0 : decode cX7_again 0 = .ok (.aload_n 0, 1) := by decide +kernel
theorem dX7_again_1 : decode cX7_again 1 = .ok (.invokevirtual 96, 3) := by decide +kernel
theorem dX7_again_4 : decode cX7_again 4 = .ok (.aload_n 0, 1) := by decide +kernel
theorem dX7_again_5 : decode cX7_again 5 = .ok (.getfield 7, 3) := by decide +kernel
theorem dX7_again_8 : decode cX7_again 8 = .ok (.bipush 8, 2) := by decide +kernel
theorem dX7_again_10 : decode cX7_again 10 = .ok (.iaload, 1) := by decide +kernel
theorem dX7_again_11 : decode cX7_again 11 = .ok (.istore_n 1, 1) := by decide +kernel
theorem dX7_again_12 : decode cX7_again 12 = .ok (.aload_n 0, 1) := by decide +kernel
theorem dX7_again_13 : decode cX7_again 13 = .ok (.getfield 7, 3) := by decide +kernel
theorem dX7_again_16 : decode cX7_again 16 = .ok (.bipush 7, 2) := by decide +kernel
theorem dX7_again_18 : decode cX7_again 18 = .ok (.iconst 0, 1) := by decide +kernel
theorem dX7_again_19 : decode cX7_again 19 = .ok (.iastore, 1) := by decide +kernel
theorem dX7_again_20 : decode cX7_again 20 = .ok (.aload_n 0, 1) := by decide +kernel
theorem dX7_again_21 : decode cX7_again 21 = .ok (.getfield 7, 3) := by decide +kernel
theorem dX7_again_24 : decode cX7_again 24 = .ok (.bipush 8, 2) := by decide +kernel
theorem dX7_again_26 : decode cX7_again 26 = .ok (.iconst 0, 1) := by decide +kernel
theorem dX7_again_27 : decode cX7_again 27 = .ok (.iastore, 1) := by decide +kernel
theorem dX7_again_28 : decode cX7_again 28 = .ok (.iload_n 1, 1) := by decide +kernel
theorem dX7_again_29 : decode cX7_again 29 = .ok (.ireturn, 1) := by decide +kernel
set_option maxRecDepth 20000 in
theorem ggX7_forget_X7_changes : GoodIn wsX7_forget wsX7_changes := goodIn_r _ [5, 6, 7, 8, 9, 22, 23, 24, 25, 26, 27, 28, 29, 30, 31, 32, 33, 34, 35] (by decide +kernel) (by decide +kernel)
set_option maxRecDepth 20000 in
theorem gX7_forget_X7_changes : GoodIn wsX7_forget (wsV RX7 96 RX7 yX7_changes wsX7_changes) := goodIn_app (goodIn_of _ (by decide +kernel)) ggX7_forget_X7_changes
set_option maxRecDepth 20000 in
theorem ggX7_forget_X7_throwsAll : GoodIn wsX7_forget wsX7_throwsAll := goodIn_r _ [13, 14, 15, 16, 4, 17, 9, 18, 19, 20, 21, 22, 23, 24, 25, 26, 27, 28, 29, 30, 31, 32, 33, 34, 35] (by decide +kernel) (by decide +kernel)
set_option maxRecDepth 20000 in
theorem gX7_forget_X7_throwsAll : GoodIn wsX7_forget (wsV RX7 83 RX7 yX7_throwsAll wsX7_throwsAll) := goodIn_app (goodIn_of _ (by decide +kernel)) ggX7_forget_X7_throwsAll
theorem dX7_forget_0 : decode cX7_forget 0 = .ok (.aload_n 0, 1) := by decide +kernel
theorem dX7_forget_1 : decode cX7_forget 1 = .ok (.invokevirtual 96, 3) := by decide +kernel
theorem dX7_forget_4 : decode cX7_forget 4 = .ok (.aload_n 0, 1) := by decide +kernel
theorem dX7_forget_5 : decode cX7_forget 5 = .ok (.invokevirtual 83, 3) := by decide +kernel
theorem dX7_forget_8 : decode cX7_forget 8 = .ok (.ireturn, 1) := by decide +kernel
set_option maxRecDepth 20000 in
theorem ggX7_sets_X7_makesRoom : GoodIn wsX7_sets wsX7_makesRoom := goodIn_r _ [6, 1, 7, 8, 9, 5, 10, 11, 12, 13, 14, 15, 16, 17, 18, 19, 20, 21, 22, 23, 24, 25, 26, 27, 28, 29, 30, 31, 32, 33, 34, 35, 36, 37, 38, 39, 40, 41, 42, 43, 44, 45, 54, 55, 56, 57, 58, 59, 60, 61, 62, 63, 64, 65, 66, 67] (by decide +kernel) (by decide +kernel)
set_option maxRecDepth 20000 in
theorem gX7_sets_X7_makesRoom : GoodIn wsX7_sets (wsV RX7 86 RX7 yX7_makesRoom wsX7_makesRoom) := goodIn_app (goodIn_of _ (by decide +kernel)) ggX7_sets_X7_makesRoom
set_option maxRecDepth 20000 in
theorem ggX7_sets_X7_throwsAll : GoodIn wsX7_sets wsX7_throwsAll := goodIn_r _ [49, 50, 51, 52, 5, 53, 1, 11, 12, 13, 14, 54, 55, 56, 57, 58, 59, 60, 61, 62, 63, 64, 65, 66, 67] (by decide +kernel) (by decide +kernel)
set_option maxRecDepth 20000 in
theorem gX7_sets_X7_throwsAll : GoodIn wsX7_sets (wsV RX7 83 RX7 yX7_throwsAll wsX7_throwsAll) := goodIn_app (goodIn_of _ (by decide +kernel)) ggX7_sets_X7_throwsAll
theorem dX7_sets_0 : decode cX7_sets 0 = .ok (.aload_n 0, 1) := by decide +kernel
theorem dX7_sets_1 : decode cX7_sets 1 = .ok (.getfield 7, 3) := by decide +kernel
theorem dX7_sets_4 : decode cX7_sets 4 = .ok (.iload_n 1, 1) := by decide +kernel
theorem dX7_sets_5 : decode cX7_sets 5 = .ok (.iload_n 2, 1) := by decide +kernel
theorem dX7_sets_6 : decode cX7_sets 6 = .ok (.iastore, 1) := by decide +kernel
theorem dX7_sets_7 : decode cX7_sets 7 = .ok (.iload_n 1, 1) := by decide +kernel
theorem dX7_sets_8 : decode cX7_sets 8 = .ok (.ifCond .ne 12, 3) := by decide +kernel
theorem dX7_sets_11 : decode cX7_sets 11 = .ok (.aload_n 0, 1) := by decide +kernel
theorem dX7_sets_12 : decode cX7_sets 12 = .ok (.bipush (-4), 2) := by decide +kernel
theorem dX7_sets_14 : decode cX7_sets 14 = .ok (.invokevirtual 86, 3) := by decide +kernel
theorem dX7_sets_17 : decode cX7_sets 17 = .ok (.goto 7, 3) := by decide +kernel
theorem dX7_sets_20 : decode cX7_sets 20 = .ok (.aload_n 0, 1) := by decide +kernel
theorem dX7_sets_21 : decode cX7_sets 21 = .ok (.invokevirtual 83, 3) := by decide +kernel
theorem dX7_sets_24 : decode cX7_sets 24 = .ok (.ireturn, 1) := by decide +kernel
set_option maxRecDepth 20000 in
theorem ggX7_set_X7_in : GoodIn wsX7_set wsX7_in := goodIn_r _ [4] (by decide +kernel) (by decide +kernel)
set_option maxRecDepth 20000 in
theorem gX7_set_X7_in : GoodIn wsX7_set (va_wsS RX7 39 yX7_in wsX7_in) := goodIn_app (goodIn_of _ (by decide +kernel)) ggX7_set_X7_in
set_option maxRecDepth 20000 in
theorem ggX7_set_X7_changes : GoodIn wsX7_set wsX7_changes := goodIn_r _ [8, 9, 10, 11, 12, 65, 66, 67, 68, 69, 70, 71, 72, 73, 74, 75, 76, 77, 78] (by decide +kernel) (by decide +kernel)
set_option maxRecDepth 20000 in
theorem gX7_set_X7_changes : GoodIn wsX7_set (wsV RX7 96 RX7 yX7_changes wsX7_changes) := goodIn_app (goodIn_of _ (by decide +kernel)) ggX7_set_X7_changes
set_option maxRecDepth 20000 in
theorem ggX7_set_X7_sets : GoodIn wsX7_set wsX7_sets := goodIn_r _ [16, 12, 17, 18, 19, 3, 20, 21, 22, 23, 24, 25, 26, 27, 28, 29, 30, 31, 32, 33, 34, 35, 36, 37, 38, 39, 40, 41, 42, 43, 44, 45, 46, 47, 48, 49, 50, 51, 52, 53, 54, 55, 56, 1, 2, 4, 57, 58, 59, 60, 61, 62, 63, 64, 65, 66, 67, 68, 69, 70, 71, 72, 73, 74, 75, 76, 77, 78] (by decide +kernel) (by decide +kernel)
set_option maxRecDepth 20000 in
theorem gX7_set_X7_sets : GoodIn wsX7_set (wsV RX7 118 RX7 yX7_sets wsX7_sets) := goodIn_app (goodIn_of _ (by decide +kernel)) ggX7_set_X7_sets
theorem dX7_set_0 : decode cX7_set 0 = .ok (.iload_n 1, 1) := by decide +kernel
theorem dX7_set_1 : decode cX7_set 1 = .ok (.iconst 0, 1) := by decide +kernel
theorem dX7_set_2 : decode cX7_set 2 = .ok (.iconst 4, 1) := by decide +kernel
theorem dX7_set_3 : decode cX7_set 3 = .ok (.invokestatic 39, 3) := by decide +kernel
theorem dX7_set_6 : decode cX7_set 6 = .ok (.ifCond .eq 31, 3) := by decide +kernel
theorem dX7_set_9 : decode cX7_set 9 = .ok (.iload_n 2, 1) := by decide +kernel
theorem dX7_set_10 : decode cX7_set 10 = .ok (.iconst 0, 1) := by decide +kernel
theorem dX7_set_11 : decode cX7_set 11 = .ok (.iload_n 1, 1) := by decide +kernel
theorem dX7_set_12 : decode cX7_set 12 = .ok (.ifCond .ne 8, 3) := by decide +kernel
theorem dX7_set_15 : decode cX7_set 15 = .ok (.bipush 60, 2) := by decide +kernel
theorem dX7_set_17 : decode cX7_set 17 = .ok (.goto 14, 3) := by decide +kernel
theorem dX7_set_20 : decode cX7_set 20 = .ok (.iload_n 1, 1) := by decide +kernel
theorem dX7_set_21 : decode cX7_set 21 = .ok (.iconst 3, 1) := by decide +kernel
theorem dX7_set_22 : decode cX7_set 22 = .ok (.if_icmp .ge 7, 3) := by decide +kernel
theorem dX7_set_25 : decode cX7_set 25 = .ok (.iconst 2, 1) := by decide +kernel
theorem dX7_set_26 : decode cX7_set 26 = .ok (.goto 5, 3) := by decide +kernel
theorem dX7_set_29 : decode cX7_set 29 = .ok (.bipush 99, 2) := by decide +kernel
theorem dX7_set_31 : decode cX7_set 31 = .ok (.invokestatic 39, 3) := by decide +kernel
theorem dX7_set_34 : decode cX7_set 34 = .ok (.ifCond .ne 5, 3) := by decide +kernel
theorem dX7_set_37 : decode cX7_set 37 = .ok (.iconst (-1), 1) := by decide +kernel
theorem dX7_set_38 : decode cX7_set 38 = .ok (.ireturn, 1) := by decide +kernel
theorem dX7_set_39 : decode cX7_set 39 = .ok (.aload_n 0, 1) := by decide +kernel
theorem dX7_set_40 : decode cX7_set 40 = .ok (.invokevirtual 96, 3) := by decide +kernel
theorem dX7_set_43 : decode cX7_set 43 = .ok (.aload_n 0, 1) := by decide +kernel
theorem dX7_set_44 : decode cX7_set 44 = .ok (.iload_n 1, 1) := by decide +kernel
theorem dX7_set_45 : decode cX7_set 45 = .ok (.iload_n 2, 1) := by decide +kernel
theorem dX7_set_46 : decode cX7_set 46 = .ok (.invokevirtual 118, 3) := by decide +kernel
theorem dX7_set_49 : decode cX7_set 49 = .ok (.ireturn, 1) := by decide +kernel
set_option maxRecDepth 20000 in
theorem ggX7_append_X7_in : GoodIn wsX7_append wsX7_in := goodIn_r _ [6] (by decide +kernel) (by decide +kernel)
set_option maxRecDepth 20000 in
theorem gX7_append_X7_in : GoodIn wsX7_append (va_wsS RX7 39 yX7_in wsX7_in) := goodIn_app (goodIn_of _ (by decide +kernel)) ggX7_append_X7_in
theorem dX7_append_0 : decode cX7_append 0 = .ok (.iload_n 1, 1) := by decide +kernel
theorem dX7_append_1 : decode cX7_append 1 = .ok (.bipush 33, 2) := by decide +kernel
theorem dX7_append_3 : decode cX7_append 3 = .ok (.bipush 126, 2) := by decide +kernel
theorem dX7_append_5 : decode cX7_append 5 = .ok (.invokestatic 39, 3) := by decide +kernel
theorem dX7_append_8 : decode cX7_append 8 = .ok (.ifCond .ne 5, 3) := by decide +kernel
theorem dX7_append_11 : decode cX7_append 11 = .ok (.iconst (-1), 1) := by decide +kernel
theorem dX7_append_12 : decode cX7_append 12 = .ok (.ireturn, 1) := by decide +kernel
theorem dX7_append_13 : decode cX7_append 13 = .ok (.aload_n 0, 1) := by decide +kernel
theorem dX7_append_14 : decode cX7_append 14 = .ok (.getfield 122, 3) := by decide +kernel
theorem dX7_append_17 : decode cX7_append 17 = .ok (.bipush 60, 2) := by decide +kernel
theorem dX7_append_19 : decode cX7_append 19 = .ok (.if_icmp .ne 6, 3) := by decide +kernel
theorem dX7_append_22 : decode cX7_append 22 = .ok (.bipush (-3), 2) := by decide +kernel
theorem dX7_append_24 : decode cX7_append 24 = .ok (.ireturn, 1) := by decide +kernel
theorem dX7_append_25 : decode cX7_append 25 = .ok (.aload_n 0, 1) := by decide +kernel
theorem dX7_append_26 : decode cX7_append 26 = .ok (.getfield 22, 3) := by decide +kernel
theorem dX7_append_29 : decode cX7_append 29 = .ok (.aload_n 0, 1) := by decide +kernel
theorem dX7_append_30 : decode cX7_append 30 = .ok (.getfield 122, 3) := by decide +kernel
theorem dX7_append_33 : decode cX7_append 33 = .ok (.iload_n 1, 1) := by decide +kernel
theorem dX7_append_34 : decode cX7_append 34 = .ok (.iastore, 1) := by decide +kernel
theorem dX7_append_35 : decode cX7_append 35 = .ok (.aload_n 0, 1) := by decide +kernel
theorem dX7_append_36 : decode cX7_append 36 = .ok (.dup, 1) := by decide +kernel
theorem dX7_append_37 : decode cX7_append 37 = .ok (.getfield 122, 3) := by decide +kernel
theorem dX7_append_40 : decode cX7_append 40 = .ok (.iconst 1, 1) := by decide +kernel
theorem dX7_append_41 : decode cX7_append 41 = .ok (.iadd, 1) := by decide +kernel
theorem dX7_append_42 : decode cX7_append 42 = .ok (.putfield 122, 3) := by decide +kernel
theorem dX7_append_45 : decode cX7_append 45 = .ok (.aload_n 0, 1) := by decide +kernel
theorem dX7_append_46 : decode cX7_append 46 = .ok (.getfield 122, 3) := by decide +kernel
theorem dX7_append_49 : decode cX7_append 49 = .ok (.ireturn, 1) := by decide +kernel
theorem dX7_clear_0 : decode cX7_clear 0 = .ok (.aload_n 0, 1) := by decide +kernel
theorem dX7_clear_1 : decode cX7_clear 1 = .ok (.getfield 122, 3) := by decide +kernel
theorem dX7_clear_4 : decode cX7_clear 4 = .ok (.istore_n 1, 1) := by decide +kernel
theorem dX7_clear_5 : decode cX7_clear 5 = .ok (.aload_n 0, 1) := by decide +kernel
theorem dX7_clear_6 : decode cX7_clear 6 = .ok (.iconst 0, 1) := by decide +kernel
theorem dX7_clear_7 : decode cX7_clear 7 = .ok (.putfield 122, 3) := by decide +kernel
theorem dX7_clear_10 : decode cX7_clear 10 = .ok (.iload_n 1, 1) := by decide +kernel
theorem dX7_clear_11 : decode cX7_clear 11 = .ok (.ireturn, 1) := by decide +kernel
set_option maxRecDepth 20000 in
theorem ggX7_isAt_X7_in : GoodIn wsX7_isAt wsX7_in := goodIn_r _ [7] (by decide +kernel) (by decide +kernel)
set_option maxRecDepth 20000 in
theorem gX7_isAt_X7_in : GoodIn wsX7_isAt (va_wsS RX7 39 yX7_in wsX7_in) := goodIn_app (goodIn_of _ (by decide +kernel)) ggX7_isAt_X7_in
theorem dX7_isAt_0 : decode cX7_isAt 0 = .ok (.aload_n 0, 1) := by decide +kernel
theorem dX7_isAt_1 : decode cX7_isAt 1 = .ok (.getfield 125, 3) := by decide +kernel
theorem dX7_isAt_4 : decode cX7_isAt 4 = .ok (.aload_n 0, 1) := by decide +kernel
theorem dX7_isAt_5 : decode cX7_isAt 5 = .ok (.getfield 122, 3) := by decide +kernel
theorem dX7_isAt_8 : decode cX7_isAt 8 = .ok (.if_icmp .ge 24, 3) := by decide +kernel
theorem dX7_isAt_11 : decode cX7_isAt 11 = .ok (.aload_n 0, 1) := by decide +kernel
theorem dX7_isAt_12 : decode cX7_isAt 12 = .ok (.getfield 22, 3) := by decide +kernel
theorem dX7_isAt_15 : decode cX7_isAt 15 = .ok (.aload_n 0, 1) := by decide +kernel
theorem dX7_isAt_16 : decode cX7_isAt 16 = .ok (.getfield 125, 3) := by decide +kernel
theorem dX7_isAt_19 : decode cX7_isAt 19 = .ok (.iaload, 1) := by decide +kernel
theorem dX7_isAt_20 : decode cX7_isAt 20 = .ok (.iload_n 1, 1) := by decide +kernel
theorem dX7_isAt_21 : decode cX7_isAt 21 = .ok (.iload_n 2, 1) := by decide +kernel
theorem dX7_isAt_22 : decode cX7_isAt 22 = .ok (.invokestatic 39, 3) := by decide +kernel
theorem dX7_isAt_25 : decode cX7_isAt 25 = .ok (.ifCond .eq 7, 3) := by decide +kernel
theorem dX7_isAt_28 : decode cX7_isAt 28 = .ok (.iconst 1, 1) := by decide +kernel
theorem dX7_isAt_29 : decode cX7_isAt 29 = .ok (.goto 4, 3) := by decide +kernel
theorem dX7_isAt_32 : decode cX7_isAt 32 = .ok (.iconst 0, 1) := by decide +kernel
theorem dX7_isAt_33 : decode cX7_isAt 33 = .ok (.ireturn, 1) := by decide +kernel
set_option maxRecDepth 20000 in
theorem ggX7_sign_X7_isAt : GoodIn wsX7_sign wsX7_isAt := goodIn_r _ [6, 1, 7, 8, 9, 10, 5, 11, 12, 13, 14, 15, 16, 17, 18, 19, 20, 21, 22, 23, 24, 25] (by decide +kernel) (by decide +kernel)
set_option maxRecDepth 20000 in
theorem gX7_sign_X7_isAt : GoodIn wsX7_sign (wsV RX7 128 RX7 yX7_isAt wsX7_isAt) := goodIn_app (goodIn_of _ (by decide +kernel)) ggX7_sign_X7_isAt
theorem dX7_sign_0 : decode cX7_sign 0 = .ok (.aload_n 0, 1) := by decide +kernel
theorem dX7_sign_1 : decode cX7_sign 1 = .ok (.iload_n 1, 1) := by decide +kernel
theorem dX7_sign_2 : decode cX7_sign 2 = .ok (.iload_n 1, 1) := by decide +kernel
theorem dX7_sign_3 : decode cX7_sign 3 = .ok (.invokevirtual 128, 3) := by decide +kernel
theorem dX7_sign_6 : decode cX7_sign 6 = .ok (.istore_n 2, 1) := by decide +kernel
theorem dX7_sign_7 : decode cX7_sign 7 = .ok (.aload_n 0, 1) := by decide +kernel
theorem dX7_sign_8 : decode cX7_sign 8 = .ok (.dup, 1) := by decide +kernel
theorem dX7_sign_9 : decode cX7_sign 9 = .ok (.getfield 125, 3) := by decide +kernel
theorem dX7_sign_12 : decode cX7_sign 12 = .ok (.iload_n 2, 1) := by decide +kernel
theorem dX7_sign_13 : decode cX7_sign 13 = .ok (.ifCond .eq 7, 3) := by decide +kernel
theorem dX7_sign_16 : decode cX7_sign 16 = .ok (.iconst 1, 1) := by decide +kernel
theorem dX7_sign_17 : decode cX7_sign 17 = .ok (.goto 4, 3) := by decide +kernel
theorem dX7_sign_20 : decode cX7_sign 20 = .ok (.iconst 0, 1) := by decide +kernel
theorem dX7_sign_21 : decode cX7_sign 21 = .ok (.iadd, 1) := by decide +kernel
theorem dX7_sign_22 : decode cX7_sign 22 = .ok (.putfield 125, 3) := by decide +kernel
theorem dX7_sign_25 : decode cX7_sign 25 = .ok (.iload_n 2, 1) := by decide +kernel
theorem dX7_sign_26 : decode cX7_sign 26 = .ok (.ireturn, 1) := by decide +kernel
set_option maxRecDepth 20000 in
theorem ggX7_number_X7_isAt : GoodIn wsX7_number wsX7_isAt := goodIn_r _ [9, 2, 10, 1, 11, 12, 8, 13, 14, 15, 16, 17, 18, 19, 20, 21, 22, 23, 24, 25, 26, 27] (by decide +kernel) (by decide +kernel)
set_option maxRecDepth 20000 in
theorem gX7_number_X7_isAt : GoodIn wsX7_number (wsV RX7 128 RX7 yX7_isAt wsX7_isAt) := goodIn_app (goodIn_of _ (by decide +kernel)) ggX7_number_X7_isAt
theorem dX7_number_0 : decode cX7_number 0 = .ok (.aload_n 0, 1) := by decide +kernel
theorem dX7_number_1 : decode cX7_number 1 = .ok (.bipush 48, 2) := by decide +kernel
theorem dX7_number_3 : decode cX7_number 3 = .ok (.iload_n 2, 1) := by decide +kernel
theorem dX7_number_4 : decode cX7_number 4 = .ok (.iadd, 1) := by decide +kernel
theorem dX7_number_5 : decode cX7_number 5 = .ok (.bipush 57, 2) := by decide +kernel
theorem dX7_number_7 : decode cX7_number 7 = .ok (.invokevirtual 128, 3) := by decide +kernel
theorem dX7_number_10 : decode cX7_number 10 = .ok (.ifCond .ne 5, 3) := by decide +kernel
theorem dX7_number_13 : decode cX7_number 13 = .ok (.iconst 0, 1) := by decide +kernel
theorem dX7_number_14 : decode cX7_number 14 = .ok (.ireturn, 1) := by decide +kernel
theorem dX7_number_15 : decode cX7_number 15 = .ok (.aload_n 0, 1) := by decide +kernel
theorem dX7_number_16 : decode cX7_number 16 = .ok (.getfield 22, 3) := by decide +kernel
theorem dX7_number_19 : decode cX7_number 19 = .ok (.aload_n 0, 1) := by decide +kernel
theorem dX7_number_20 : decode cX7_number 20 = .ok (.getfield 125, 3) := by decide +kernel
theorem dX7_number_23 : decode cX7_number 23 = .ok (.iaload, 1) := by decide +kernel
theorem dX7_number_24 : decode cX7_number 24 = .ok (.bipush 48, 2) := by decide +kernel
theorem dX7_number_26 : decode cX7_number 26 = .ok (.isub, 1) := by decide +kernel
theorem dX7_number_27 : decode cX7_number 27 = .ok (.istore 4, 2) := by decide +kernel
theorem dX7_number_29 : decode cX7_number 29 = .ok (.aload_n 0, 1) := by decide +kernel
theorem dX7_number_30 : decode cX7_number 30 = .ok (.dup, 1) := by decide +kernel
theorem dX7_number_31 : decode cX7_number 31 = .ok (.getfield 125, 3) := by decide +kernel
theorem dX7_number_34 : decode cX7_number 34 = .ok (.iconst 1, 1) := by decide +kernel
theorem dX7_number_35 : decode cX7_number 35 = .ok (.iadd, 1) := by decide +kernel
theorem dX7_number_36 : decode cX7_number 36 = .ok (.putfield 125, 3) := by decide +kernel
theorem dX7_number_39 : decode cX7_number 39 = .ok (.iload 4, 2) := by decide +kernel
theorem dX7_number_41 : decode cX7_number 41 = .ok (.ifCond .le 69, 3) := by decide +kernel
theorem dX7_number_44 : decode cX7_number 44 = .ok (.aload_n 0, 1) := by decide +kernel
theorem dX7_number_45 : decode cX7_number 45 = .ok (.bipush 48, 2) := by decide +kernel
theorem dX7_number_47 : decode cX7_number 47 = .ok (.bipush 57, 2) := by decide +kernel
theorem dX7_number_49 : decode cX7_number 49 = .ok (.invokevirtual 128, 3) := by decide +kernel
theorem dX7_number_52 : decode cX7_number 52 = .ok (.ifCond .eq 58, 3) := by decide +kernel
theorem dX7_number_55 : decode cX7_number 55 = .ok (.bipush 10, 2) := by decide +kernel
theorem dX7_number_57 : decode cX7_number 57 = .ok (.iload 4, 2) := by decide +kernel
theorem dX7_number_59 : decode cX7_number 59 = .ok (.imul, 1) := by decide +kernel
theorem dX7_number_60 : decode cX7_number 60 = .ok (.aload_n 0, 1) := by decide +kernel
theorem dX7_number_61 : decode cX7_number 61 = .ok (.getfield 22, 3) := by decide +kernel
theorem dX7_number_64 : decode cX7_number 64 = .ok (.aload_n 0, 1) := by decide +kernel
theorem dX7_number_65 : decode cX7_number 65 = .ok (.getfield 125, 3) := by decide +kernel
theorem dX7_number_68 : decode cX7_number 68 = .ok (.iaload, 1) := by decide +kernel
theorem dX7_number_69 : decode cX7_number 69 = .ok (.iadd, 1) := by decide +kernel
theorem dX7_number_70 : decode cX7_number 70 = .ok (.bipush 48, 2) := by decide +kernel
theorem dX7_number_72 : decode cX7_number 72 = .ok (.isub, 1) := by decide +kernel
theorem dX7_number_73 : decode cX7_number 73 = .ok (.iload_n 3, 1) := by decide +kernel
theorem dX7_number_74 : decode cX7_number 74 = .ok (.if_icmp .gt 36, 3) := by decide +kernel
theorem dX7_number_77 : decode cX7_number 77 = .ok (.bipush 10, 2) := by decide +kernel
theorem dX7_number_79 : decode cX7_number 79 = .ok (.iload 4, 2) := by decide +kernel
theorem dX7_number_81 : decode cX7_number 81 = .ok (.imul, 1) := by decide +kernel
theorem dX7_number_82 : decode cX7_number 82 = .ok (.aload_n 0, 1) := by decide +kernel
theorem dX7_number_83 : decode cX7_number 83 = .ok (.getfield 22, 3) := by decide +kernel
theorem dX7_number_86 : decode cX7_number 86 = .ok (.aload_n 0, 1) := by decide +kernel
theorem dX7_number_87 : decode cX7_number 87 = .ok (.getfield 125, 3) := by decide +kernel
theorem dX7_number_90 : decode cX7_number 90 = .ok (.iaload, 1) := by decide +kernel
theorem dX7_number_91 : decode cX7_number 91 = .ok (.iadd, 1) := by decide +kernel
theorem dX7_number_92 : decode cX7_number 92 = .ok (.bipush 48, 2) := by decide +kernel
theorem dX7_number_94 : decode cX7_number 94 = .ok (.isub, 1) := by decide +kernel
theorem dX7_number_95 : decode cX7_number 95 = .ok (.istore 4, 2) := by decide +kernel
theorem dX7_number_97 : decode cX7_number 97 = .ok (.aload_n 0, 1) := by decide +kernel
theorem dX7_number_98 : decode cX7_number 98 = .ok (.dup, 1) := by decide +kernel
theorem dX7_number_99 : decode cX7_number 99 = .ok (.getfield 125, 3) := by decide +kernel
theorem dX7_number_102 : decode cX7_number 102 = .ok (.iconst 1, 1) := by decide +kernel
theorem dX7_number_103 : decode cX7_number 103 = .ok (.iadd, 1) := by decide +kernel
theorem dX7_number_104 : decode cX7_number 104 = .ok (.putfield 125, 3) := by decide +kernel
theorem dX7_number_107 : decode cX7_number 107 = .ok (.goto (-68), 3) := by decide +kernel
theorem dX7_number_110 : decode cX7_number 110 = .ok (.aload_n 0, 1) := by decide +kernel
theorem dX7_number_111 : decode cX7_number 111 = .ok (.getfield 28, 3) := by decide +kernel
theorem dX7_number_114 : decode cX7_number 114 = .ok (.iconst 4, 1) := by decide +kernel
theorem dX7_number_115 : decode cX7_number 115 = .ok (.aload_n 0, 1) := by decide +kernel
theorem dX7_number_116 : decode cX7_number 116 = .ok (.getfield 131, 3) := by decide +kernel
theorem dX7_number_119 : decode cX7_number 119 = .ok (.imul, 1) := by decide +kernel
theorem dX7_number_120 : decode cX7_number 120 = .ok (.iload_n 1, 1) := by decide +kernel
theorem dX7_number_121 : decode cX7_number 121 = .ok (.iadd, 1) := by decide +kernel
theorem dX7_number_122 : decode cX7_number 122 = .ok (.iload 4, 2) := by decide +kernel
theorem dX7_number_124 : decode cX7_number 124 = .ok (.iastore, 1) := by decide +kernel
theorem dX7_number_125 : decode cX7_number 125 = .ok (.iconst 1, 1) := by decide +kernel
theorem dX7_number_126 : decode cX7_number 126 = .ok (.ireturn, 1) := by decide +kernel
set_option maxRecDepth 20000 in
theorem ggX7_readsRow_X7_number : GoodIn wsX7_readsRow wsX7_number := goodIn_r _ [5, 6, 7, 8, 9, 10, 11, 12, 4, 13, 14, 15, 16, 17, 22, 23, 24, 25, 26, 27, 28, 29, 30, 31, 32, 33, 34, 35] (by decide +kernel) (by decide +kernel)
set_option maxRecDepth 20000 in
theorem gX7_readsRow_X7_number : GoodIn wsX7_readsRow (wsV RX7 134 RX7 yX7_number wsX7_number) := goodIn_app (goodIn_of _ (by decide +kernel)) ggX7_readsRow_X7_number
set_option maxRecDepth 20000 in
theorem ggX7_readsRow_X7_sign : GoodIn wsX7_readsRow wsX7_sign := goodIn_r _ [21, 7, 10, 11, 12, 4, 13, 14, 6, 15, 16, 17, 22, 23, 24, 25, 26, 27, 28, 29, 30, 31, 32, 33, 34, 35] (by decide +kernel) (by decide +kernel)
set_option maxRecDepth 20000 in
theorem gX7_readsRow_X7_sign : GoodIn wsX7_readsRow (wsV RX7 137 RX7 yX7_sign wsX7_sign) := goodIn_app (goodIn_of _ (by decide +kernel)) ggX7_readsRow_X7_sign
theorem dX7_readsRow_0 : decode cX7_readsRow 0 = .ok (.aload_n 0, 1) := by decide +kernel
theorem dX7_readsRow_1 : decode cX7_readsRow 1 = .ok (.iconst 1, 1) := by decide +kernel
theorem dX7_readsRow_2 : decode cX7_readsRow 2 = .ok (.iconst 0, 1) := by decide +kernel
theorem dX7_readsRow_3 : decode cX7_readsRow 3 = .ok (.bipush 9, 2) := by decide +kernel
theorem dX7_readsRow_5 : decode cX7_readsRow 5 = .ok (.invokevirtual 134, 3) := by decide +kernel
theorem dX7_readsRow_8 : decode cX7_readsRow 8 = .ok (.ifCond .eq 27, 3) := by decide +kernel
theorem dX7_readsRow_11 : decode cX7_readsRow 11 = .ok (.aload_n 0, 1) := by decide +kernel
theorem dX7_readsRow_12 : decode cX7_readsRow 12 = .ok (.bipush 58, 2) := by decide +kernel
theorem dX7_readsRow_14 : decode cX7_readsRow 14 = .ok (.invokevirtual 137, 3) := by decide +kernel
theorem dX7_readsRow_17 : decode cX7_readsRow 17 = .ok (.ifCond .eq 18, 3) := by decide +kernel
theorem dX7_readsRow_20 : decode cX7_readsRow 20 = .ok (.aload_n 0, 1) := by decide +kernel
theorem dX7_readsRow_21 : decode cX7_readsRow 21 = .ok (.iconst 2, 1) := by decide +kernel
theorem dX7_readsRow_22 : decode cX7_readsRow 22 = .ok (.iconst 0, 1) := by decide +kernel
theorem dX7_readsRow_23 : decode cX7_readsRow 23 = .ok (.bipush 99, 2) := by decide +kernel
theorem dX7_readsRow_25 : decode cX7_readsRow 25 = .ok (.invokevirtual 134, 3) := by decide +kernel
theorem dX7_readsRow_28 : decode cX7_readsRow 28 = .ok (.ifCond .eq 7, 3) := by decide +kernel
theorem dX7_readsRow_31 : decode cX7_readsRow 31 = .ok (.iconst 1, 1) := by decide +kernel
theorem dX7_readsRow_32 : decode cX7_readsRow 32 = .ok (.goto 4, 3) := by decide +kernel
theorem dX7_readsRow_35 : decode cX7_readsRow 35 = .ok (.iconst 0, 1) := by decide +kernel
theorem dX7_readsRow_36 : decode cX7_readsRow 36 = .ok (.ireturn, 1) := by decide +kernel
set_option maxRecDepth 20000 in
theorem ggX7_deed_X7_readsRow : GoodIn wsX7_deed wsX7_readsRow := goodIn_r _ [10, 11, 12, 13, 9, 14, 3, 1, 4, 5, 15, 16, 17, 18, 2, 19, 20, 21, 22, 23, 24, 25, 26, 27, 28, 29, 30, 31, 32, 33, 34, 35, 36, 37, 38, 39] (by decide +kernel) (by decide +kernel)
set_option maxRecDepth 20000 in
theorem gX7_deed_X7_readsRow : GoodIn wsX7_deed (wsV RX7 140 RX7 yX7_readsRow wsX7_readsRow) := goodIn_app (goodIn_of _ (by decide +kernel)) ggX7_deed_X7_readsRow
set_option maxRecDepth 20000 in
theorem ggX7_deed_X7_number : GoodIn wsX7_deed wsX7_number := goodIn_r _ [14, 3, 1, 4, 5, 15, 16, 17, 9, 18, 2, 19, 20, 21, 26, 27, 28, 29, 30, 31, 32, 33, 34, 35, 36, 37, 38, 39] (by decide +kernel) (by decide +kernel)
set_option maxRecDepth 20000 in
theorem gX7_deed_X7_number : GoodIn wsX7_deed (wsV RX7 134 RX7 yX7_number wsX7_number) := goodIn_app (goodIn_of _ (by decide +kernel)) ggX7_deed_X7_number
theorem dX7_deed_0 : decode cX7_deed 0 = .ok (.aload_n 0, 1) := by decide +kernel
theorem dX7_deed_1 : decode cX7_deed 1 = .ok (.getfield 125, 3) := by decide +kernel
theorem dX7_deed_4 : decode cX7_deed 4 = .ok (.aload_n 0, 1) := by decide +kernel
theorem dX7_deed_5 : decode cX7_deed 5 = .ok (.getfield 122, 3) := by decide +kernel
theorem dX7_deed_8 : decode cX7_deed 8 = .ok (.if_icmp .ge 15, 3) := by decide +kernel
theorem dX7_deed_11 : decode cX7_deed 11 = .ok (.aload_n 0, 1) := by decide +kernel
theorem dX7_deed_12 : decode cX7_deed 12 = .ok (.getfield 22, 3) := by decide +kernel
theorem dX7_deed_15 : decode cX7_deed 15 = .ok (.aload_n 0, 1) := by decide +kernel
theorem dX7_deed_16 : decode cX7_deed 16 = .ok (.getfield 125, 3) := by decide +kernel
theorem dX7_deed_19 : decode cX7_deed 19 = .ok (.iaload, 1) := by decide +kernel
theorem dX7_deed_20 : decode cX7_deed 20 = .ok (.goto 4, 3) := by decide +kernel
theorem dX7_deed_23 : decode cX7_deed 23 = .ok (.iconst 0, 1) := by decide +kernel
theorem dX7_deed_24 : decode cX7_deed 24 = .ok (.istore_n 1, 1) := by decide +kernel
theorem dX7_deed_25 : decode cX7_deed 25 = .ok (.aload_n 0, 1) := by decide +kernel
theorem dX7_deed_26 : decode cX7_deed 26 = .ok (.getfield 28, 3) := by decide +kernel
theorem dX7_deed_29 : decode cX7_deed 29 = .ok (.iconst 4, 1) := by decide +kernel
theorem dX7_deed_30 : decode cX7_deed 30 = .ok (.aload_n 0, 1) := by decide +kernel
theorem dX7_deed_31 : decode cX7_deed 31 = .ok (.getfield 131, 3) := by decide +kernel
theorem dX7_deed_34 : decode cX7_deed 34 = .ok (.imul, 1) := by decide +kernel
theorem dX7_deed_35 : decode cX7_deed 35 = .ok (.iload_n 1, 1) := by decide +kernel
theorem dX7_deed_36 : decode cX7_deed 36 = .ok (.iastore, 1) := by decide +kernel
theorem dX7_deed_37 : decode cX7_deed 37 = .ok (.aload_n 0, 1) := by decide +kernel
theorem dX7_deed_38 : decode cX7_deed 38 = .ok (.getfield 28, 3) := by decide +kernel
theorem dX7_deed_41 : decode cX7_deed 41 = .ok (.iconst 4, 1) := by decide +kernel
theorem dX7_deed_42 : decode cX7_deed 42 = .ok (.aload_n 0, 1) := by decide +kernel
theorem dX7_deed_43 : decode cX7_deed 43 = .ok (.getfield 131, 3) := by decide +kernel
theorem dX7_deed_46 : decode cX7_deed 46 = .ok (.imul, 1) := by decide +kernel
theorem dX7_deed_47 : decode cX7_deed 47 = .ok (.iconst 3, 1) := by decide +kernel
theorem dX7_deed_48 : decode cX7_deed 48 = .ok (.iadd, 1) := by decide +kernel
theorem dX7_deed_49 : decode cX7_deed 49 = .ok (.aload_n 0, 1) := by decide +kernel
theorem dX7_deed_50 : decode cX7_deed 50 = .ok (.getfield 125, 3) := by decide +kernel
theorem dX7_deed_53 : decode cX7_deed 53 = .ok (.iastore, 1) := by decide +kernel
theorem dX7_deed_54 : decode cX7_deed 54 = .ok (.iload_n 1, 1) := by decide +kernel
theorem dX7_deed_55 : decode cX7_deed 55 = .ok (.bipush 115, 2) := by decide +kernel
theorem dX7_deed_57 : decode cX7_deed 57 = .ok (.if_icmp .eq 23, 3) := by decide +kernel
theorem dX7_deed_60 : decode cX7_deed 60 = .ok (.iload_n 1, 1) := by decide +kernel
theorem dX7_deed_61 : decode cX7_deed 61 = .ok (.bipush 43, 2) := by decide +kernel
theorem dX7_deed_63 : decode cX7_deed 63 = .ok (.if_icmp .eq 17, 3) := by decide +kernel
theorem dX7_deed_66 : decode cX7_deed 66 = .ok (.iload_n 1, 1) := by decide +kernel
theorem dX7_deed_67 : decode cX7_deed 67 = .ok (.bipush 45, 2) := by decide +kernel
theorem dX7_deed_69 : decode cX7_deed 69 = .ok (.if_icmp .eq 11, 3) := by decide +kernel
theorem dX7_deed_72 : decode cX7_deed 72 = .ok (.iload_n 1, 1) := by decide +kernel
theorem dX7_deed_73 : decode cX7_deed 73 = .ok (.bipush 114, 2) := by decide +kernel
theorem dX7_deed_75 : decode cX7_deed 75 = .ok (.if_icmp .eq 5, 3) := by decide +kernel
theorem dX7_deed_78 : decode cX7_deed 78 = .ok (.iconst 0, 1) := by decide +kernel
theorem dX7_deed_79 : decode cX7_deed 79 = .ok (.ireturn, 1) := by decide +kernel
theorem dX7_deed_80 : decode cX7_deed 80 = .ok (.aload_n 0, 1) := by decide +kernel
theorem dX7_deed_81 : decode cX7_deed 81 = .ok (.dup, 1) := by decide +kernel
theorem dX7_deed_82 : decode cX7_deed 82 = .ok (.getfield 125, 3) := by decide +kernel
theorem dX7_deed_85 : decode cX7_deed 85 = .ok (.iconst 1, 1) := by decide +kernel
theorem dX7_deed_86 : decode cX7_deed 86 = .ok (.iadd, 1) := by decide +kernel
theorem dX7_deed_87 : decode cX7_deed 87 = .ok (.putfield 125, 3) := by decide +kernel
theorem dX7_deed_90 : decode cX7_deed 90 = .ok (.iload_n 1, 1) := by decide +kernel
theorem dX7_deed_91 : decode cX7_deed 91 = .ok (.bipush 114, 2) := by decide +kernel
theorem dX7_deed_93 : decode cX7_deed 93 = .ok (.if_icmp .eq 50, 3) := by decide +kernel
theorem dX7_deed_96 : decode cX7_deed 96 = .ok (.iload_n 1, 1) := by decide +kernel
theorem dX7_deed_97 : decode cX7_deed 97 = .ok (.bipush 43, 2) := by decide +kernel
theorem dX7_deed_99 : decode cX7_deed 99 = .ok (.if_icmp .ne 13, 3) := by decide +kernel
theorem dX7_deed_102 : decode cX7_deed 102 = .ok (.aload_n 0, 1) := by decide +kernel
theorem dX7_deed_103 : decode cX7_deed 103 = .ok (.invokevirtual 140, 3) := by decide +kernel
theorem dX7_deed_106 : decode cX7_deed 106 = .ok (.ifCond .eq 41, 3) := by decide +kernel
theorem dX7_deed_109 : decode cX7_deed 109 = .ok (.goto 34, 3) := by decide +kernel
theorem dX7_deed_112 : decode cX7_deed 112 = .ok (.iload_n 1, 1) := by decide +kernel
theorem dX7_deed_113 : decode cX7_deed 113 = .ok (.bipush 115, 2) := by decide +kernel
theorem dX7_deed_115 : decode cX7_deed 115 = .ok (.if_icmp .ne 17, 3) := by decide +kernel
theorem dX7_deed_118 : decode cX7_deed 118 = .ok (.aload_n 0, 1) := by decide +kernel
theorem dX7_deed_119 : decode cX7_deed 119 = .ok (.iconst 1, 1) := by decide +kernel
theorem dX7_deed_120 : decode cX7_deed 120 = .ok (.iconst 1, 1) := by decide +kernel
theorem dX7_deed_121 : decode cX7_deed 121 = .ok (.bipush 20, 2) := by decide +kernel
theorem dX7_deed_123 : decode cX7_deed 123 = .ok (.invokevirtual 134, 3) := by decide +kernel
theorem dX7_deed_126 : decode cX7_deed 126 = .ok (.ifCond .eq 21, 3) := by decide +kernel
theorem dX7_deed_129 : decode cX7_deed 129 = .ok (.goto 14, 3) := by decide +kernel
theorem dX7_deed_132 : decode cX7_deed 132 = .ok (.aload_n 0, 1) := by decide +kernel
theorem dX7_deed_133 : decode cX7_deed 133 = .ok (.iconst 1, 1) := by decide +kernel
theorem dX7_deed_134 : decode cX7_deed 134 = .ok (.iconst 0, 1) := by decide +kernel
theorem dX7_deed_135 : decode cX7_deed 135 = .ok (.bipush 19, 2) := by decide +kernel
theorem dX7_deed_137 : decode cX7_deed 137 = .ok (.invokevirtual 134, 3) := by decide +kernel
theorem dX7_deed_140 : decode cX7_deed 140 = .ok (.ifCond .eq 7, 3) := by decide +kernel
theorem dX7_deed_143 : decode cX7_deed 143 = .ok (.iconst 1, 1) := by decide +kernel
theorem dX7_deed_144 : decode cX7_deed 144 = .ok (.goto 4, 3) := by decide +kernel
theorem dX7_deed_147 : decode cX7_deed 147 = .ok (.iconst 0, 1) := by decide +kernel
theorem dX7_deed_148 : decode cX7_deed 148 = .ok (.ireturn, 1) := by decide +kernel
set_option maxRecDepth 20000 in
theorem ggX7_fault_X7_in : GoodIn wsX7_fault wsX7_in := goodIn_r _ [7] (by decide +kernel) (by decide +kernel)
set_option maxRecDepth 20000 in
theorem gX7_fault_X7_in : GoodIn wsX7_fault (va_wsS RX7 39 yX7_in wsX7_in) := goodIn_app (goodIn_of _ (by decide +kernel)) ggX7_fault_X7_in
set_option maxRecDepth 20000 in
theorem ggX7_fault_X7_readsRow : GoodIn wsX7_fault wsX7_readsRow := goodIn_r _ [11, 12, 13, 14, 6, 15, 16, 1, 17, 2, 18, 19, 20, 21, 3, 4, 5, 7, 22, 23, 24, 25, 30, 31, 32, 33, 34, 35, 36, 37, 38, 39, 40, 41, 42, 43] (by decide +kernel) (by decide +kernel)
set_option maxRecDepth 20000 in
theorem gX7_fault_X7_readsRow : GoodIn wsX7_fault (wsV RX7 140 RX7 yX7_readsRow wsX7_readsRow) := goodIn_app (goodIn_of _ (by decide +kernel)) ggX7_fault_X7_readsRow
set_option maxRecDepth 20000 in
theorem ggX7_fault_X7_deed : GoodIn wsX7_fault wsX7_deed := goodIn_r _ [29, 1, 3, 16, 17, 2, 8, 9, 10, 6, 11, 12, 13, 14, 15, 18, 19, 20, 21, 4, 5, 7, 22, 23, 24, 25, 30, 31, 32, 33, 34, 35, 36, 37, 38, 39, 40, 41, 42, 43] (by decide +kernel) (by decide +kernel)
set_option maxRecDepth 20000 in
theorem gX7_fault_X7_deed : GoodIn wsX7_fault (wsV RX7 144 RX7 yX7_deed wsX7_deed) := goodIn_app (goodIn_of _ (by decide +kernel)) ggX7_fault_X7_deed
set_option maxRecDepth 20000 in
theorem ggX7_fault_X7_sign : GoodIn wsX7_fault wsX7_sign := goodIn_r _ [25, 1, 18, 19, 20, 6, 21, 3, 16, 4, 5, 7, 30, 31, 32, 33, 34, 35, 36, 37, 38, 39, 40, 41, 42, 43] (by decide +kernel) (by decide +kernel)
set_option maxRecDepth 20000 in
theorem gX7_fault_X7_sign : GoodIn wsX7_fault (wsV RX7 137 RX7 yX7_sign wsX7_sign) := goodIn_app (goodIn_of _ (by decide +kernel)) ggX7_fault_X7_sign
theorem dX7_fault_0 : decode cX7_fault 0 = .ok (.iload_n 1, 1) := by decide +kernel
theorem dX7_fault_1 : decode cX7_fault 1 = .ok (.iconst 0, 1) := by decide +kernel
theorem dX7_fault_2 : decode cX7_fault 2 = .ok (.iconst 1, 1) := by decide +kernel
theorem dX7_fault_3 : decode cX7_fault 3 = .ok (.invokestatic 39, 3) := by decide +kernel
theorem dX7_fault_6 : decode cX7_fault 6 = .ok (.ifCond .ne 5, 3) := by decide +kernel
theorem dX7_fault_9 : decode cX7_fault 9 = .ok (.iconst (-1), 1) := by decide +kernel
theorem dX7_fault_10 : decode cX7_fault 10 = .ok (.ireturn, 1) := by decide +kernel
theorem dX7_fault_11 : decode cX7_fault 11 = .ok (.aload_n 0, 1) := by decide +kernel
theorem dX7_fault_12 : decode cX7_fault 12 = .ok (.iconst 0, 1) := by decide +kernel
theorem dX7_fault_13 : decode cX7_fault 13 = .ok (.putfield 125, 3) := by decide +kernel
theorem dX7_fault_16 : decode cX7_fault 16 = .ok (.aload_n 0, 1) := by decide +kernel
theorem dX7_fault_17 : decode cX7_fault 17 = .ok (.iconst 0, 1) := by decide +kernel
theorem dX7_fault_18 : decode cX7_fault 18 = .ok (.putfield 131, 3) := by decide +kernel
theorem dX7_fault_21 : decode cX7_fault 21 = .ok (.iconst 1, 1) := by decide +kernel
theorem dX7_fault_22 : decode cX7_fault 22 = .ok (.istore_n 2, 1) := by decide +kernel
theorem dX7_fault_23 : decode cX7_fault 23 = .ok (.iload_n 2, 1) := by decide +kernel
theorem dX7_fault_24 : decode cX7_fault 24 = .ok (.ifCond .eq 58, 3) := by decide +kernel
theorem dX7_fault_27 : decode cX7_fault 27 = .ok (.iload_n 1, 1) := by decide +kernel
theorem dX7_fault_28 : decode cX7_fault 28 = .ok (.ifCond .ne 13, 3) := by decide +kernel
theorem dX7_fault_31 : decode cX7_fault 31 = .ok (.aload_n 0, 1) := by decide +kernel
theorem dX7_fault_32 : decode cX7_fault 32 = .ok (.invokevirtual 140, 3) := by decide +kernel
theorem dX7_fault_35 : decode cX7_fault 35 = .ok (.ifCond .eq 13, 3) := by decide +kernel
theorem dX7_fault_38 : decode cX7_fault 38 = .ok (.goto 15, 3) := by decide +kernel
theorem dX7_fault_41 : decode cX7_fault 41 = .ok (.aload_n 0, 1) := by decide +kernel
theorem dX7_fault_42 : decode cX7_fault 42 = .ok (.invokevirtual 144, 3) := by decide +kernel
theorem dX7_fault_45 : decode cX7_fault 45 = .ok (.ifCond .ne 8, 3) := by decide +kernel
theorem dX7_fault_48 : decode cX7_fault 48 = .ok (.aload_n 0, 1) := by decide +kernel
theorem dX7_fault_49 : decode cX7_fault 49 = .ok (.getfield 125, 3) := by decide +kernel
theorem dX7_fault_52 : decode cX7_fault 52 = .ok (.ireturn, 1) := by decide +kernel
theorem dX7_fault_53 : decode cX7_fault 53 = .ok (.aload_n 0, 1) := by decide +kernel
theorem dX7_fault_54 : decode cX7_fault 54 = .ok (.dup, 1) := by decide +kernel
theorem dX7_fault_55 : decode cX7_fault 55 = .ok (.getfield 131, 3) := by decide +kernel
theorem dX7_fault_58 : decode cX7_fault 58 = .ok (.iconst 1, 1) := by decide +kernel
theorem dX7_fault_59 : decode cX7_fault 59 = .ok (.iadd, 1) := by decide +kernel
theorem dX7_fault_60 : decode cX7_fault 60 = .ok (.putfield 131, 3) := by decide +kernel
theorem dX7_fault_63 : decode cX7_fault 63 = .ok (.aload_n 0, 1) := by decide +kernel
theorem dX7_fault_64 : decode cX7_fault 64 = .ok (.iload_n 1, 1) := by decide +kernel
theorem dX7_fault_65 : decode cX7_fault 65 = .ok (.ifCond .ne 8, 3) := by decide +kernel
theorem dX7_fault_68 : decode cX7_fault 68 = .ok (.bipush 44, 2) := by decide +kernel
theorem dX7_fault_70 : decode cX7_fault 70 = .ok (.goto 5, 3) := by decide +kernel
theorem dX7_fault_73 : decode cX7_fault 73 = .ok (.bipush 59, 2) := by decide +kernel
theorem dX7_fault_75 : decode cX7_fault 75 = .ok (.invokevirtual 137, 3) := by decide +kernel
theorem dX7_fault_78 : decode cX7_fault 78 = .ok (.istore_n 2, 1) := by decide +kernel
theorem dX7_fault_79 : decode cX7_fault 79 = .ok (.goto (-56), 3) := by decide +kernel
theorem dX7_fault_82 : decode cX7_fault 82 = .ok (.aload_n 0, 1) := by decide +kernel
theorem dX7_fault_83 : decode cX7_fault 83 = .ok (.getfield 125, 3) := by decide +kernel
theorem dX7_fault_86 : decode cX7_fault 86 = .ok (.aload_n 0, 1) := by decide +kernel
theorem dX7_fault_87 : decode cX7_fault 87 = .ok (.getfield 122, 3) := by decide +kernel
theorem dX7_fault_90 : decode cX7_fault 90 = .ok (.if_icmp .ne 8, 3) := by decide +kernel
theorem dX7_fault_93 : decode cX7_fault 93 = .ok (.bipush (-4), 2) := by decide +kernel
theorem dX7_fault_95 : decode cX7_fault 95 = .ok (.goto 7, 3) := by decide +kernel
theorem dX7_fault_98 : decode cX7_fault 98 = .ok (.aload_n 0, 1) := by decide +kernel
theorem dX7_fault_99 : decode cX7_fault 99 = .ok (.getfield 125, 3) := by decide +kernel
theorem dX7_fault_102 : decode cX7_fault 102 = .ok (.ireturn, 1) := by decide +kernel
set_option maxRecDepth 20000 in
theorem ggX7_fill_X7_fault : GoodIn wsX7_fill wsX7_fault := goodIn_r _ [9, 10, 2, 4, 11, 12, 8, 13, 14, 15, 16, 17, 18, 19, 20, 21, 22, 3, 23, 24, 25, 26, 27, 28, 29, 30, 31, 32, 33, 34, 62, 63, 64, 65, 66, 67, 68, 69, 70, 71, 72, 73, 74, 75] (by decide +kernel) (by decide +kernel)
set_option maxRecDepth 20000 in
theorem gX7_fill_X7_fault : GoodIn wsX7_fill (wsV RX7 147 RX7 yX7_fault wsX7_fault) := goodIn_app (goodIn_of _ (by decide +kernel)) ggX7_fill_X7_fault
set_option maxRecDepth 20000 in
theorem ggX7_fill_X7_changes : GoodIn wsX7_fill wsX7_changes := goodIn_r _ [38, 39, 40, 41, 1, 62, 63, 64, 65, 66, 67, 68, 69, 70, 71, 72, 73, 74, 75] (by decide +kernel) (by decide +kernel)
set_option maxRecDepth 20000 in
theorem gX7_fill_X7_changes : GoodIn wsX7_fill (wsV RX7 96 RX7 yX7_changes wsX7_changes) := goodIn_app (goodIn_of _ (by decide +kernel)) ggX7_fill_X7_changes
set_option maxRecDepth 20000 in
theorem ggX7_fill_X7_adds : GoodIn wsX7_fill wsX7_adds := goodIn_r _ [45, 1, 46, 47, 48, 8, 49, 50, 51, 52, 53, 54, 55, 56, 57, 58, 59, 60, 61, 62, 63, 64, 65, 66, 67, 68, 69, 70, 71, 72, 73, 74, 75] (by decide +kernel) (by decide +kernel)
set_option maxRecDepth 20000 in
theorem gX7_fill_X7_adds : GoodIn wsX7_fill (wsV RX7 99 RX7 yX7_adds wsX7_adds) := goodIn_app (goodIn_of _ (by decide +kernel)) ggX7_fill_X7_adds
theorem dX7_fill_0 : decode cX7_fill 0 = .ok (.aload_n 0, 1) := by decide +kernel
theorem dX7_fill_1 : decode cX7_fill 1 = .ok (.iconst 0, 1) := by decide +kernel
theorem dX7_fill_2 : decode cX7_fill 2 = .ok (.invokevirtual 147, 3) := by decide +kernel
theorem dX7_fill_5 : decode cX7_fill 5 = .ok (.bipush (-4), 2) := by decide +kernel
theorem dX7_fill_7 : decode cX7_fill 7 = .ok (.if_icmp .eq 6, 3) := by decide +kernel
theorem dX7_fill_10 : decode cX7_fill 10 = .ok (.bipush (-2), 2) := by decide +kernel
theorem dX7_fill_12 : decode cX7_fill 12 = .ok (.ireturn, 1) := by decide +kernel
theorem dX7_fill_13 : decode cX7_fill 13 = .ok (.iload_n 1, 1) := by decide +kernel
theorem dX7_fill_14 : decode cX7_fill 14 = .ok (.ifCond .eq 7, 3) := by decide +kernel
theorem dX7_fill_17 : decode cX7_fill 17 = .ok (.iconst 5, 1) := by decide +kernel
theorem dX7_fill_18 : decode cX7_fill 18 = .ok (.goto 5, 3) := by decide +kernel
theorem dX7_fill_21 : decode cX7_fill 21 = .ok (.bipush 6, 2) := by decide +kernel
theorem dX7_fill_23 : decode cX7_fill 23 = .ok (.istore_n 2, 1) := by decide +kernel
theorem dX7_fill_24 : decode cX7_fill 24 = .ok (.aload_n 0, 1) := by decide +kernel
theorem dX7_fill_25 : decode cX7_fill 25 = .ok (.getfield 7, 3) := by decide +kernel
theorem dX7_fill_28 : decode cX7_fill 28 = .ok (.iload_n 2, 1) := by decide +kernel
theorem dX7_fill_29 : decode cX7_fill 29 = .ok (.iaload, 1) := by decide +kernel
theorem dX7_fill_30 : decode cX7_fill 30 = .ok (.aload_n 0, 1) := by decide +kernel
theorem dX7_fill_31 : decode cX7_fill 31 = .ok (.getfield 131, 3) := by decide +kernel
theorem dX7_fill_34 : decode cX7_fill 34 = .ok (.iadd, 1) := by decide +kernel
theorem dX7_fill_35 : decode cX7_fill 35 = .ok (.bipush 20, 2) := by decide +kernel
theorem dX7_fill_37 : decode cX7_fill 37 = .ok (.if_icmp .le 6, 3) := by decide +kernel
theorem dX7_fill_40 : decode cX7_fill 40 = .ok (.bipush (-3), 2) := by decide +kernel
theorem dX7_fill_42 : decode cX7_fill 42 = .ok (.ireturn, 1) := by decide +kernel
theorem dX7_fill_43 : decode cX7_fill 43 = .ok (.aload_n 0, 1) := by decide +kernel
theorem dX7_fill_44 : decode cX7_fill 44 = .ok (.invokevirtual 96, 3) := by decide +kernel
theorem dX7_fill_47 : decode cX7_fill 47 = .ok (.iconst 0, 1) := by decide +kernel
theorem dX7_fill_48 : decode cX7_fill 48 = .ok (.istore_n 3, 1) := by decide +kernel
theorem dX7_fill_49 : decode cX7_fill 49 = .ok (.iconst 0, 1) := by decide +kernel
theorem dX7_fill_50 : decode cX7_fill 50 = .ok (.istore 4, 2) := by decide +kernel
theorem dX7_fill_52 : decode cX7_fill 52 = .ok (.iload 4, 2) := by decide +kernel
theorem dX7_fill_54 : decode cX7_fill 54 = .ok (.aload_n 0, 1) := by decide +kernel
theorem dX7_fill_55 : decode cX7_fill 55 = .ok (.getfield 131, 3) := by decide +kernel
theorem dX7_fill_58 : decode cX7_fill 58 = .ok (.if_icmp .ge 37, 3) := by decide +kernel
theorem dX7_fill_61 : decode cX7_fill 61 = .ok (.aload_n 0, 1) := by decide +kernel
theorem dX7_fill_62 : decode cX7_fill 62 = .ok (.iload_n 1, 1) := by decide +kernel
theorem dX7_fill_63 : decode cX7_fill 63 = .ok (.aload_n 0, 1) := by decide +kernel
theorem dX7_fill_64 : decode cX7_fill 64 = .ok (.getfield 28, 3) := by decide +kernel
theorem dX7_fill_67 : decode cX7_fill 67 = .ok (.iconst 4, 1) := by decide +kernel
theorem dX7_fill_68 : decode cX7_fill 68 = .ok (.iload 4, 2) := by decide +kernel
theorem dX7_fill_70 : decode cX7_fill 70 = .ok (.imul, 1) := by decide +kernel
theorem dX7_fill_71 : decode cX7_fill 71 = .ok (.iconst 1, 1) := by decide +kernel
theorem dX7_fill_72 : decode cX7_fill 72 = .ok (.iadd, 1) := by decide +kernel
theorem dX7_fill_73 : decode cX7_fill 73 = .ok (.iaload, 1) := by decide +kernel
theorem dX7_fill_74 : decode cX7_fill 74 = .ok (.aload_n 0, 1) := by decide +kernel
theorem dX7_fill_75 : decode cX7_fill 75 = .ok (.getfield 28, 3) := by decide +kernel
theorem dX7_fill_78 : decode cX7_fill 78 = .ok (.iconst 4, 1) := by decide +kernel
theorem dX7_fill_79 : decode cX7_fill 79 = .ok (.iload 4, 2) := by decide +kernel
theorem dX7_fill_81 : decode cX7_fill 81 = .ok (.imul, 1) := by decide +kernel
theorem dX7_fill_82 : decode cX7_fill 82 = .ok (.iconst 2, 1) := by decide +kernel
theorem dX7_fill_83 : decode cX7_fill 83 = .ok (.iadd, 1) := by decide +kernel
theorem dX7_fill_84 : decode cX7_fill 84 = .ok (.iaload, 1) := by decide +kernel
theorem dX7_fill_85 : decode cX7_fill 85 = .ok (.invokevirtual 99, 3) := by decide +kernel
theorem dX7_fill_88 : decode cX7_fill 88 = .ok (.istore_n 3, 1) := by decide +kernel
theorem dX7_fill_89 : decode cX7_fill 89 = .ok (.iinc 4 1, 3) := by decide +kernel
theorem dX7_fill_92 : decode cX7_fill 92 = .ok (.goto (-40), 3) := by decide +kernel
theorem dX7_fill_95 : decode cX7_fill 95 = .ok (.aload_n 0, 1) := by decide +kernel
theorem dX7_fill_96 : decode cX7_fill 96 = .ok (.iconst 0, 1) := by decide +kernel
theorem dX7_fill_97 : decode cX7_fill 97 = .ok (.putfield 122, 3) := by decide +kernel
theorem dX7_fill_100 : decode cX7_fill 100 = .ok (.iload_n 3, 1) := by decide +kernel
theorem dX7_fill_101 : decode cX7_fill 101 = .ok (.iconst 1, 1) := by decide +kernel
theorem dX7_fill_102 : decode cX7_fill 102 = .ok (.iadd, 1) := by decide +kernel
theorem dX7_fill_103 : decode cX7_fill 103 = .ok (.ireturn, 1) := by decide +kernel
set_option maxRecDepth 20000 in
theorem ggX7_does_X7_step : GoodIn wsX7_does wsX7_step := goodIn_r _ [6, 7, 8, 9, 5, 10, 11, 12, 13, 14, 15, 16, 17, 18, 19, 20, 21, 22, 23, 24, 25, 26, 27, 28, 29, 30, 31, 32, 33, 34, 35, 36, 37, 38, 39, 40, 41, 42, 43, 44, 45, 46, 47, 48, 49, 50, 51, 52, 53, 54, 55, 56, 57, 58, 59, 60, 61, 62, 63, 64, 65, 66, 67, 68, 69, 109, 110, 111, 112, 113, 114, 115, 116, 117, 118, 119, 120, 121, 122] (by decide +kernel) (by decide +kernel)
set_option maxRecDepth 20000 in
theorem gX7_does_X7_step : GoodIn wsX7_does (wsV RX7 150 RX7 yX7_step wsX7_step) := goodIn_app (goodIn_of _ (by decide +kernel)) ggX7_does_X7_step
set_option maxRecDepth 20000 in
theorem ggX7_does_X7_add : GoodIn wsX7_does wsX7_add := goodIn_r _ [73, 7, 74, 75, 5, 76, 8, 9, 10, 11, 12, 13, 14, 15, 16, 17, 77, 78, 79, 80, 81, 82, 83, 84, 85, 86, 87, 88, 89, 90, 91, 92, 26, 27, 28, 29, 109, 110, 111, 112, 113, 114, 115, 116, 117, 118, 119, 120, 121, 122] (by decide +kernel) (by decide +kernel)
set_option maxRecDepth 20000 in
theorem gX7_does_X7_add : GoodIn wsX7_does (wsV RX7 153 RX7 yX7_add wsX7_add) := goodIn_app (goodIn_of _ (by decide +kernel)) ggX7_does_X7_add
set_option maxRecDepth 20000 in
theorem ggX7_does_X7_drop : GoodIn wsX7_does wsX7_drop := goodIn_r _ [96, 7, 97, 98, 99, 5, 100, 8, 9, 10, 101, 102, 103, 104, 11, 12, 13, 14, 15, 16, 17, 81, 82, 83, 84, 85, 86, 87, 88, 89, 90, 91, 92, 26, 27, 28, 29, 109, 110, 111, 112, 113, 114, 115, 116, 117, 118, 119, 120, 121, 122] (by decide +kernel) (by decide +kernel)
set_option maxRecDepth 20000 in
theorem gX7_does_X7_drop : GoodIn wsX7_does (wsV RX7 156 RX7 yX7_drop wsX7_drop) := goodIn_app (goodIn_of _ (by decide +kernel)) ggX7_does_X7_drop
set_option maxRecDepth 20000 in
theorem ggX7_does_X7_again : GoodIn wsX7_does wsX7_again := goodIn_r _ [108, 7, 11, 12, 13, 5, 14, 15, 16, 17, 109, 110, 111, 112, 113, 114, 115, 116, 117, 118, 119, 120, 121, 122] (by decide +kernel) (by decide +kernel)
set_option maxRecDepth 20000 in
theorem gX7_does_X7_again : GoodIn wsX7_does (wsV RX7 160 RX7 yX7_again wsX7_again) := goodIn_app (goodIn_of _ (by decide +kernel)) ggX7_does_X7_again
theorem dX7_does_0 : decode cX7_does 0 = .ok (.aload_n 0, 1) := by decide +kernel
theorem dX7_does_1 : decode cX7_does 1 = .ok (.getfield 28, 3) := by decide +kernel
theorem dX7_does_4 : decode cX7_does 4 = .ok (.iconst 4, 1) := by decide +kernel
theorem dX7_does_5 : decode cX7_does 5 = .ok (.iload_n 1, 1) := by decide +kernel
theorem dX7_does_6 : decode cX7_does 6 = .ok (.imul, 1) := by decide +kernel
theorem dX7_does_7 : decode cX7_does 7 = .ok (.iconst 1, 1) := by decide +kernel
theorem dX7_does_8 : decode cX7_does 8 = .ok (.iadd, 1) := by decide +kernel
theorem dX7_does_9 : decode cX7_does 9 = .ok (.iaload, 1) := by decide +kernel
theorem dX7_does_10 : decode cX7_does 10 = .ok (.istore_n 2, 1) := by decide +kernel
theorem dX7_does_11 : decode cX7_does 11 = .ok (.aload_n 0, 1) := by decide +kernel
theorem dX7_does_12 : decode cX7_does 12 = .ok (.getfield 28, 3) := by decide +kernel
theorem dX7_does_15 : decode cX7_does 15 = .ok (.iconst 4, 1) := by decide +kernel
theorem dX7_does_16 : decode cX7_does 16 = .ok (.iload_n 1, 1) := by decide +kernel
theorem dX7_does_17 : decode cX7_does 17 = .ok (.imul, 1) := by decide +kernel
theorem dX7_does_18 : decode cX7_does 18 = .ok (.iaload, 1) := by decide +kernel
theorem dX7_does_19 : decode cX7_does 19 = .ok (.lookupswitch 63 #[(43, 39), (45, 56), (115, 33)], 33) := by decide +kernel
theorem dX7_does_52 : decode cX7_does 52 = .ok (.aload_n 0, 1) := by decide +kernel
theorem dX7_does_53 : decode cX7_does 53 = .ok (.iload_n 2, 1) := by decide +kernel
theorem dX7_does_54 : decode cX7_does 54 = .ok (.invokevirtual 150, 3) := by decide +kernel
theorem dX7_does_57 : decode cX7_does 57 = .ok (.ireturn, 1) := by decide +kernel
theorem dX7_does_58 : decode cX7_does 58 = .ok (.aload_n 0, 1) := by decide +kernel
theorem dX7_does_59 : decode cX7_does 59 = .ok (.iconst 1, 1) := by decide +kernel
theorem dX7_does_60 : decode cX7_does 60 = .ok (.iload_n 2, 1) := by decide +kernel
theorem dX7_does_61 : decode cX7_does 61 = .ok (.aload_n 0, 1) := by decide +kernel
theorem dX7_does_62 : decode cX7_does 62 = .ok (.getfield 28, 3) := by decide +kernel
theorem dX7_does_65 : decode cX7_does 65 = .ok (.iconst 4, 1) := by decide +kernel
theorem dX7_does_66 : decode cX7_does 66 = .ok (.iload_n 1, 1) := by decide +kernel
theorem dX7_does_67 : decode cX7_does 67 = .ok (.imul, 1) := by decide +kernel
theorem dX7_does_68 : decode cX7_does 68 = .ok (.iconst 2, 1) := by decide +kernel
theorem dX7_does_69 : decode cX7_does 69 = .ok (.iadd, 1) := by decide +kernel
theorem dX7_does_70 : decode cX7_does 70 = .ok (.iaload, 1) := by decide +kernel
theorem dX7_does_71 : decode cX7_does 71 = .ok (.invokevirtual 153, 3) := by decide +kernel
theorem dX7_does_74 : decode cX7_does 74 = .ok (.ireturn, 1) := by decide +kernel
theorem dX7_does_75 : decode cX7_does 75 = .ok (.aload_n 0, 1) := by decide +kernel
theorem dX7_does_76 : decode cX7_does 76 = .ok (.iconst 1, 1) := by decide +kernel
theorem dX7_does_77 : decode cX7_does 77 = .ok (.iload_n 2, 1) := by decide +kernel
theorem dX7_does_78 : decode cX7_does 78 = .ok (.invokevirtual 156, 3) := by decide +kernel
theorem dX7_does_81 : decode cX7_does 81 = .ok (.ireturn, 1) := by decide +kernel
theorem dX7_does_82 : decode cX7_does 82 = .ok (.aload_n 0, 1) := by decide +kernel
theorem dX7_does_83 : decode cX7_does 83 = .ok (.invokevirtual 160, 3) := by decide +kernel
theorem dX7_does_86 : decode cX7_does 86 = .ok (.ireturn, 1) := by decide +kernel
set_option maxRecDepth 20000 in
theorem ggX7_carryOut_X7_fault : GoodIn wsX7_carryOut wsX7_fault := goodIn_r _ [11, 12, 4, 1, 13, 14, 10, 15, 16, 17, 18, 19, 20, 21, 22, 23, 24, 6, 25, 26, 27, 28, 29, 30, 31, 32, 33, 34, 35, 36, 143, 144, 145, 146, 147, 148, 149, 150, 151, 152, 153, 154, 155, 156] (by decide +kernel) (by decide +kernel)
set_option maxRecDepth 20000 in
theorem gX7_carryOut_X7_fault : GoodIn wsX7_carryOut (wsV RX7 147 RX7 yX7_fault wsX7_fault) := goodIn_app (goodIn_of _ (by decide +kernel)) ggX7_carryOut_X7_fault
set_option maxRecDepth 20000 in
theorem ggX7_carryOut_X7_changes : GoodIn wsX7_carryOut wsX7_changes := goodIn_r _ [40, 2, 41, 42, 43, 143, 144, 145, 146, 147, 148, 149, 150, 151, 152, 153, 154, 155, 156] (by decide +kernel) (by decide +kernel)
set_option maxRecDepth 20000 in
theorem gX7_carryOut_X7_changes : GoodIn wsX7_carryOut (wsV RX7 96 RX7 yX7_changes wsX7_changes) := goodIn_app (goodIn_of _ (by decide +kernel)) ggX7_carryOut_X7_changes
set_option maxRecDepth 20000 in
theorem ggX7_carryOut_X7_does : GoodIn wsX7_carryOut wsX7_does := goodIn_r _ [47, 6, 48, 49, 50, 10, 51, 43, 13, 14, 15, 37, 38, 39, 40, 2, 41, 42, 52, 53, 54, 55, 56, 57, 58, 59, 60, 61, 62, 63, 64, 65, 66, 67, 68, 69, 70, 71, 72, 73, 74, 75, 76, 77, 78, 79, 80, 81, 82, 83, 84, 85, 86, 87, 88, 89, 90, 91, 92, 93, 94, 95, 96, 97, 98, 99, 100, 101, 102, 103, 104, 105, 106, 107, 108, 109, 110, 111, 112, 113, 114, 115, 116, 117, 118, 119, 120, 121, 122, 123, 124, 125, 126, 127, 128, 129, 130, 131, 132, 133, 134, 135, 136, 137, 138, 139, 140, 141, 142, 143, 144, 145, 146, 147, 148, 149, 150, 151, 152, 153, 154, 155, 156] (by decide +kernel) (by decide +kernel)
set_option maxRecDepth 20000 in
theorem gX7_carryOut_X7_does : GoodIn wsX7_carryOut (wsV RX7 166 RX7 yX7_does wsX7_does) := goodIn_app (goodIn_of _ (by decide +kernel)) ggX7_carryOut_X7_does
theorem dX7_carryOut_0 : decode cX7_carryOut 0 = .ok (.aload_n 0, 1) := by decide +kernel
theorem dX7_carryOut_1 : decode cX7_carryOut 1 = .ok (.iconst 1, 1) := by decide +kernel
theorem dX7_carryOut_2 : decode cX7_carryOut 2 = .ok (.invokevirtual 147, 3) := by decide +kernel
theorem dX7_carryOut_5 : decode cX7_carryOut 5 = .ok (.bipush (-4), 2) := by decide +kernel
theorem dX7_carryOut_7 : decode cX7_carryOut 7 = .ok (.if_icmp .eq 6, 3) := by decide +kernel
theorem dX7_carryOut_10 : decode cX7_carryOut 10 = .ok (.bipush (-2), 2) := by decide +kernel
theorem dX7_carryOut_12 : decode cX7_carryOut 12 = .ok (.ireturn, 1) := by decide +kernel
theorem dX7_carryOut_13 : decode cX7_carryOut 13 = .ok (.aload_n 0, 1) := by decide +kernel
theorem dX7_carryOut_14 : decode cX7_carryOut 14 = .ok (.invokevirtual 96, 3) := by decide +kernel
theorem dX7_carryOut_17 : decode cX7_carryOut 17 = .ok (.aload_n 0, 1) := by decide +kernel
theorem dX7_carryOut_18 : decode cX7_carryOut 18 = .ok (.iconst 0, 1) := by decide +kernel
theorem dX7_carryOut_19 : decode cX7_carryOut 19 = .ok (.putfield 122, 3) := by decide +kernel
theorem dX7_carryOut_22 : decode cX7_carryOut 22 = .ok (.aload_n 0, 1) := by decide +kernel
theorem dX7_carryOut_23 : decode cX7_carryOut 23 = .ok (.iconst 1, 1) := by decide +kernel
theorem dX7_carryOut_24 : decode cX7_carryOut 24 = .ok (.putfield 31, 3) := by decide +kernel
theorem dX7_carryOut_27 : decode cX7_carryOut 27 = .ok (.aload_n 0, 1) := by decide +kernel
theorem dX7_carryOut_28 : decode cX7_carryOut 28 = .ok (.iconst 0, 1) := by decide +kernel
theorem dX7_carryOut_29 : decode cX7_carryOut 29 = .ok (.putfield 163, 3) := by decide +kernel
theorem dX7_carryOut_32 : decode cX7_carryOut 32 = .ok (.iconst 0, 1) := by decide +kernel
theorem dX7_carryOut_33 : decode cX7_carryOut 33 = .ok (.istore_n 1, 1) := by decide +kernel
theorem dX7_carryOut_34 : decode cX7_carryOut 34 = .ok (.iload_n 1, 1) := by decide +kernel
theorem dX7_carryOut_35 : decode cX7_carryOut 35 = .ok (.aload_n 0, 1) := by decide +kernel
theorem dX7_carryOut_36 : decode cX7_carryOut 36 = .ok (.getfield 131, 3) := by decide +kernel
theorem dX7_carryOut_39 : decode cX7_carryOut 39 = .ok (.if_icmp .ge 77, 3) := by decide +kernel
theorem dX7_carryOut_42 : decode cX7_carryOut 42 = .ok (.aload_n 0, 1) := by decide +kernel
theorem dX7_carryOut_43 : decode cX7_carryOut 43 = .ok (.getfield 163, 3) := by decide +kernel
theorem dX7_carryOut_46 : decode cX7_carryOut 46 = .ok (.ifCond .ne 70, 3) := by decide +kernel
theorem dX7_carryOut_49 : decode cX7_carryOut 49 = .ok (.aload_n 0, 1) := by decide +kernel
theorem dX7_carryOut_50 : decode cX7_carryOut 50 = .ok (.iload_n 1, 1) := by decide +kernel
theorem dX7_carryOut_51 : decode cX7_carryOut 51 = .ok (.invokevirtual 166, 3) := by decide +kernel
theorem dX7_carryOut_54 : decode cX7_carryOut 54 = .ok (.istore_n 2, 1) := by decide +kernel
theorem dX7_carryOut_55 : decode cX7_carryOut 55 = .ok (.aload_n 0, 1) := by decide +kernel
theorem dX7_carryOut_56 : decode cX7_carryOut 56 = .ok (.iload_n 2, 1) := by decide +kernel
theorem dX7_carryOut_57 : decode cX7_carryOut 57 = .ok (.ifCond .ge 7, 3) := by decide +kernel
theorem dX7_carryOut_60 : decode cX7_carryOut 60 = .ok (.iconst 1, 1) := by decide +kernel
theorem dX7_carryOut_61 : decode cX7_carryOut 61 = .ok (.goto 4, 3) := by decide +kernel
theorem dX7_carryOut_64 : decode cX7_carryOut 64 = .ok (.iconst 0, 1) := by decide +kernel
theorem dX7_carryOut_65 : decode cX7_carryOut 65 = .ok (.putfield 163, 3) := by decide +kernel
theorem dX7_carryOut_68 : decode cX7_carryOut 68 = .ok (.aload_n 0, 1) := by decide +kernel
theorem dX7_carryOut_69 : decode cX7_carryOut 69 = .ok (.getfield 25, 3) := by decide +kernel
theorem dX7_carryOut_72 : decode cX7_carryOut 72 = .ok (.iconst 0, 1) := by decide +kernel
theorem dX7_carryOut_73 : decode cX7_carryOut 73 = .ok (.iload_n 2, 1) := by decide +kernel
theorem dX7_carryOut_74 : decode cX7_carryOut 74 = .ok (.iastore, 1) := by decide +kernel
theorem dX7_carryOut_75 : decode cX7_carryOut 75 = .ok (.aload_n 0, 1) := by decide +kernel
theorem dX7_carryOut_76 : decode cX7_carryOut 76 = .ok (.getfield 25, 3) := by decide +kernel
theorem dX7_carryOut_79 : decode cX7_carryOut 79 = .ok (.iconst 1, 1) := by decide +kernel
theorem dX7_carryOut_80 : decode cX7_carryOut 80 = .ok (.iload_n 1, 1) := by decide +kernel
theorem dX7_carryOut_81 : decode cX7_carryOut 81 = .ok (.iastore, 1) := by decide +kernel
theorem dX7_carryOut_82 : decode cX7_carryOut 82 = .ok (.aload_n 0, 1) := by decide +kernel
theorem dX7_carryOut_83 : decode cX7_carryOut 83 = .ok (.getfield 25, 3) := by decide +kernel
theorem dX7_carryOut_86 : decode cX7_carryOut 86 = .ok (.iconst 2, 1) := by decide +kernel
theorem dX7_carryOut_87 : decode cX7_carryOut 87 = .ok (.aload_n 0, 1) := by decide +kernel
theorem dX7_carryOut_88 : decode cX7_carryOut 88 = .ok (.getfield 28, 3) := by decide +kernel
theorem dX7_carryOut_91 : decode cX7_carryOut 91 = .ok (.iconst 4, 1) := by decide +kernel
theorem dX7_carryOut_92 : decode cX7_carryOut 92 = .ok (.iload_n 1, 1) := by decide +kernel
theorem dX7_carryOut_93 : decode cX7_carryOut 93 = .ok (.imul, 1) := by decide +kernel
theorem dX7_carryOut_94 : decode cX7_carryOut 94 = .ok (.iconst 3, 1) := by decide +kernel
theorem dX7_carryOut_95 : decode cX7_carryOut 95 = .ok (.iadd, 1) := by decide +kernel
theorem dX7_carryOut_96 : decode cX7_carryOut 96 = .ok (.iaload, 1) := by decide +kernel
theorem dX7_carryOut_97 : decode cX7_carryOut 97 = .ok (.iastore, 1) := by decide +kernel
theorem dX7_carryOut_98 : decode cX7_carryOut 98 = .ok (.iload_n 1, 1) := by decide +kernel
theorem dX7_carryOut_99 : decode cX7_carryOut 99 = .ok (.aload_n 0, 1) := by decide +kernel
theorem dX7_carryOut_100 : decode cX7_carryOut 100 = .ok (.getfield 163, 3) := by decide +kernel
theorem dX7_carryOut_103 : decode cX7_carryOut 103 = .ok (.ifCond .eq 7, 3) := by decide +kernel
theorem dX7_carryOut_106 : decode cX7_carryOut 106 = .ok (.iconst 0, 1) := by decide +kernel
theorem dX7_carryOut_107 : decode cX7_carryOut 107 = .ok (.goto 4, 3) := by decide +kernel
theorem dX7_carryOut_110 : decode cX7_carryOut 110 = .ok (.iconst 1, 1) := by decide +kernel
theorem dX7_carryOut_111 : decode cX7_carryOut 111 = .ok (.iadd, 1) := by decide +kernel
theorem dX7_carryOut_112 : decode cX7_carryOut 112 = .ok (.istore_n 1, 1) := by decide +kernel
theorem dX7_carryOut_113 : decode cX7_carryOut 113 = .ok (.goto (-79), 3) := by decide +kernel
theorem dX7_carryOut_116 : decode cX7_carryOut 116 = .ok (.aload_n 0, 1) := by decide +kernel
theorem dX7_carryOut_117 : decode cX7_carryOut 117 = .ok (.iconst 0, 1) := by decide +kernel
theorem dX7_carryOut_118 : decode cX7_carryOut 118 = .ok (.putfield 31, 3) := by decide +kernel
theorem dX7_carryOut_121 : decode cX7_carryOut 121 = .ok (.iload_n 1, 1) := by decide +kernel
theorem dX7_carryOut_122 : decode cX7_carryOut 122 = .ok (.ireturn, 1) := by decide +kernel
set_option maxRecDepth 20000 in
theorem ggX7_why_X7_in : GoodIn wsX7_why wsX7_in := goodIn_r _ [6] (by decide +kernel) (by decide +kernel)
set_option maxRecDepth 20000 in
theorem gX7_why_X7_in : GoodIn wsX7_why (va_wsS RX7 39 yX7_in wsX7_in) := goodIn_app (goodIn_of _ (by decide +kernel)) ggX7_why_X7_in
theorem dX7_why_0 : decode cX7_why 0 = .ok (.iload_n 1, 1) := by decide +kernel
theorem dX7_why_1 : decode cX7_why 1 = .ok (.iconst 0, 1) := by decide +kernel
theorem dX7_why_2 : decode cX7_why 2 = .ok (.iconst 2, 1) := by decide +kernel
theorem dX7_why_3 : decode cX7_why 3 = .ok (.invokestatic 39, 3) := by decide +kernel
theorem dX7_why_6 : decode cX7_why 6 = .ok (.ifCond .ne 7, 3) := by decide +kernel
theorem dX7_why_9 : decode cX7_why 9 = .ok (.iconst (-1), 1) := by decide +kernel
theorem dX7_why_10 : decode cX7_why 10 = .ok (.goto 21, 3) := by decide +kernel
theorem dX7_why_13 : decode cX7_why 13 = .ok (.aload_n 0, 1) := by decide +kernel
theorem dX7_why_14 : decode cX7_why 14 = .ok (.getfield 163, 3) := by decide +kernel
theorem dX7_why_17 : decode cX7_why 17 = .ok (.ifCond .eq 12, 3) := by decide +kernel
theorem dX7_why_20 : decode cX7_why 20 = .ok (.aload_n 0, 1) := by decide +kernel
theorem dX7_why_21 : decode cX7_why 21 = .ok (.getfield 25, 3) := by decide +kernel
theorem dX7_why_24 : decode cX7_why 24 = .ok (.iload_n 1, 1) := by decide +kernel
theorem dX7_why_25 : decode cX7_why 25 = .ok (.iaload, 1) := by decide +kernel
theorem dX7_why_26 : decode cX7_why 26 = .ok (.goto 5, 3) := by decide +kernel
theorem dX7_why_29 : decode cX7_why 29 = .ok (.bipush (-4), 2) := by decide +kernel
theorem dX7_why_31 : decode cX7_why 31 = .ok (.ireturn, 1) := by decide +kernel
set_option maxRecDepth 20000 in
theorem ggX7_row_X7_isInner : GoodIn wsX7_row wsX7_isInner := goodIn_r _ [6, 1, 7, 8, 5, 9, 30, 31, 32, 33, 34, 35, 36, 37, 38, 39, 40, 41, 42, 43] (by decide +kernel) (by decide +kernel)
set_option maxRecDepth 20000 in
theorem gX7_row_X7_isInner : GoodIn wsX7_row (wsV RX7 103 RX7 yX7_isInner wsX7_isInner) := goodIn_app (goodIn_of _ (by decide +kernel)) ggX7_row_X7_isInner
set_option maxRecDepth 20000 in
theorem ggX7_row_X7_isOuter : GoodIn wsX7_row wsX7_isOuter := goodIn_r _ [13, 1, 7, 8, 5, 9, 30, 31, 32, 33, 34, 35, 36, 37, 38, 39, 40, 41, 42, 43] (by decide +kernel) (by decide +kernel)
set_option maxRecDepth 20000 in
theorem gX7_row_X7_isOuter : GoodIn wsX7_row (wsV RX7 106 RX7 yX7_isOuter wsX7_isOuter) := goodIn_app (goodIn_of _ (by decide +kernel)) ggX7_row_X7_isOuter
set_option maxRecDepth 20000 in
theorem ggX7_row_X7_in : GoodIn wsX7_row wsX7_in := goodIn_r _ [9] (by decide +kernel) (by decide +kernel)
set_option maxRecDepth 20000 in
theorem gX7_row_X7_in : GoodIn wsX7_row (va_wsS RX7 39 yX7_in wsX7_in) := goodIn_app (goodIn_of _ (by decide +kernel)) ggX7_row_X7_in
set_option maxRecDepth 20000 in
theorem ggX7_row_X7_innerKey : GoodIn wsX7_row wsX7_innerKey := goodIn_r _ [17, 1, 30, 31, 32, 33, 34, 35, 36, 37, 38, 39, 40, 41, 42, 43] (by decide +kernel) (by decide +kernel)
set_option maxRecDepth 20000 in
theorem gX7_row_X7_innerKey : GoodIn wsX7_row (wsV RX7 43 RX7 yX7_innerKey wsX7_innerKey) := goodIn_app (goodIn_of _ (by decide +kernel)) ggX7_row_X7_innerKey
set_option maxRecDepth 20000 in
theorem ggX7_row_X7_isKnown : GoodIn wsX7_row wsX7_isKnown := goodIn_r _ [21, 1, 30, 31, 32, 33, 34, 35, 36, 37, 38, 39, 40, 41, 42, 43] (by decide +kernel) (by decide +kernel)
set_option maxRecDepth 20000 in
theorem gX7_row_X7_isKnown : GoodIn wsX7_row (wsV RX7 66 RX7 yX7_isKnown wsX7_isKnown) := goodIn_app (goodIn_of _ (by decide +kernel)) ggX7_row_X7_isKnown
set_option maxRecDepth 20000 in
theorem ggX7_row_X7_isFound : GoodIn wsX7_row wsX7_isFound := goodIn_r _ [25, 1, 14, 15, 16, 5, 17, 26, 27, 28, 29, 7, 8, 9, 30, 31, 32, 33, 34, 35, 36, 37, 38, 39, 40, 41, 42, 43] (by decide +kernel) (by decide +kernel)
set_option maxRecDepth 20000 in
theorem gX7_row_X7_isFound : GoodIn wsX7_row (wsV RX7 50 RX7 yX7_isFound wsX7_isFound) := goodIn_app (goodIn_of _ (by decide +kernel)) ggX7_row_X7_isFound
theorem dX7_row_0 : decode cX7_row 0 = .ok (.iload_n 1, 1) := by decide +kernel
theorem dX7_row_1 : decode cX7_row 1 = .ok (.ifCond .eq 14, 3) := by decide +kernel
theorem dX7_row_4 : decode cX7_row 4 = .ok (.aload_n 0, 1) := by decide +kernel
theorem dX7_row_5 : decode cX7_row 5 = .ok (.iload_n 2, 1) := by decide +kernel
theorem dX7_row_6 : decode cX7_row 6 = .ok (.invokevirtual 103, 3) := by decide +kernel
theorem dX7_row_9 : decode cX7_row 9 = .ok (.ifCond .ne 14, 3) := by decide +kernel
theorem dX7_row_12 : decode cX7_row 12 = .ok (.goto 20, 3) := by decide +kernel
theorem dX7_row_15 : decode cX7_row 15 = .ok (.aload_n 0, 1) := by decide +kernel
theorem dX7_row_16 : decode cX7_row 16 = .ok (.iload_n 2, 1) := by decide +kernel
theorem dX7_row_17 : decode cX7_row 17 = .ok (.invokevirtual 106, 3) := by decide +kernel
theorem dX7_row_20 : decode cX7_row 20 = .ok (.ifCond .eq 12, 3) := by decide +kernel
theorem dX7_row_23 : decode cX7_row 23 = .ok (.iload_n 3, 1) := by decide +kernel
theorem dX7_row_24 : decode cX7_row 24 = .ok (.iconst 0, 1) := by decide +kernel
theorem dX7_row_25 : decode cX7_row 25 = .ok (.iconst 2, 1) := by decide +kernel
theorem dX7_row_26 : decode cX7_row 26 = .ok (.invokestatic 39, 3) := by decide +kernel
theorem dX7_row_29 : decode cX7_row 29 = .ok (.ifCond .ne 5, 3) := by decide +kernel
theorem dX7_row_32 : decode cX7_row 32 = .ok (.iconst (-1), 1) := by decide +kernel
theorem dX7_row_33 : decode cX7_row 33 = .ok (.ireturn, 1) := by decide +kernel
theorem dX7_row_34 : decode cX7_row 34 = .ok (.iload_n 3, 1) := by decide +kernel
theorem dX7_row_35 : decode cX7_row 35 = .ok (.iconst 2, 1) := by decide +kernel
theorem dX7_row_36 : decode cX7_row 36 = .ok (.if_icmp .ge 26, 3) := by decide +kernel
theorem dX7_row_39 : decode cX7_row 39 = .ok (.aload_n 0, 1) := by decide +kernel
theorem dX7_row_40 : decode cX7_row 40 = .ok (.getfield 7, 3) := by decide +kernel
theorem dX7_row_43 : decode cX7_row 43 = .ok (.iload_n 1, 1) := by decide +kernel
theorem dX7_row_44 : decode cX7_row 44 = .ok (.ifCond .eq 8, 3) := by decide +kernel
theorem dX7_row_47 : decode cX7_row 47 = .ok (.bipush 17, 2) := by decide +kernel
theorem dX7_row_49 : decode cX7_row 49 = .ok (.goto 5, 3) := by decide +kernel
theorem dX7_row_52 : decode cX7_row 52 = .ok (.bipush 57, 2) := by decide +kernel
theorem dX7_row_54 : decode cX7_row 54 = .ok (.iconst 2, 1) := by decide +kernel
theorem dX7_row_55 : decode cX7_row 55 = .ok (.iload_n 2, 1) := by decide +kernel
theorem dX7_row_56 : decode cX7_row 56 = .ok (.imul, 1) := by decide +kernel
theorem dX7_row_57 : decode cX7_row 57 = .ok (.iadd, 1) := by decide +kernel
theorem dX7_row_58 : decode cX7_row 58 = .ok (.iload_n 3, 1) := by decide +kernel
theorem dX7_row_59 : decode cX7_row 59 = .ok (.iadd, 1) := by decide +kernel
theorem dX7_row_60 : decode cX7_row 60 = .ok (.iaload, 1) := by decide +kernel
theorem dX7_row_61 : decode cX7_row 61 = .ok (.ireturn, 1) := by decide +kernel
theorem dX7_row_62 : decode cX7_row 62 = .ok (.iload_n 1, 1) := by decide +kernel
theorem dX7_row_63 : decode cX7_row 63 = .ok (.ifCond .eq 36, 3) := by decide +kernel
theorem dX7_row_66 : decode cX7_row 66 = .ok (.aload_n 0, 1) := by decide +kernel
theorem dX7_row_67 : decode cX7_row 67 = .ok (.aload_n 0, 1) := by decide +kernel
theorem dX7_row_68 : decode cX7_row 68 = .ok (.iload_n 2, 1) := by decide +kernel
theorem dX7_row_69 : decode cX7_row 69 = .ok (.invokevirtual 43, 3) := by decide +kernel
theorem dX7_row_72 : decode cX7_row 72 = .ok (.invokevirtual 66, 3) := by decide +kernel
theorem dX7_row_75 : decode cX7_row 75 = .ok (.ifCond .eq 20, 3) := by decide +kernel
theorem dX7_row_78 : decode cX7_row 78 = .ok (.aload_n 0, 1) := by decide +kernel
theorem dX7_row_79 : decode cX7_row 79 = .ok (.iload_n 2, 1) := by decide +kernel
theorem dX7_row_80 : decode cX7_row 80 = .ok (.aload_n 0, 1) := by decide +kernel
theorem dX7_row_81 : decode cX7_row 81 = .ok (.iload_n 2, 1) := by decide +kernel
theorem dX7_row_82 : decode cX7_row 82 = .ok (.invokevirtual 43, 3) := by decide +kernel
theorem dX7_row_85 : decode cX7_row 85 = .ok (.invokevirtual 50, 3) := by decide +kernel
theorem dX7_row_88 : decode cX7_row 88 = .ok (.ifCond .eq 7, 3) := by decide +kernel
theorem dX7_row_91 : decode cX7_row 91 = .ok (.iconst 1, 1) := by decide +kernel
theorem dX7_row_92 : decode cX7_row 92 = .ok (.goto 23, 3) := by decide +kernel
theorem dX7_row_95 : decode cX7_row 95 = .ok (.iconst 0, 1) := by decide +kernel
theorem dX7_row_96 : decode cX7_row 96 = .ok (.goto 19, 3) := by decide +kernel
theorem dX7_row_99 : decode cX7_row 99 = .ok (.iload_n 2, 1) := by decide +kernel
theorem dX7_row_100 : decode cX7_row 100 = .ok (.aload_n 0, 1) := by decide +kernel
theorem dX7_row_101 : decode cX7_row 101 = .ok (.getfield 7, 3) := by decide +kernel
theorem dX7_row_104 : decode cX7_row 104 = .ok (.bipush 7, 2) := by decide +kernel
theorem dX7_row_106 : decode cX7_row 106 = .ok (.iaload, 1) := by decide +kernel
theorem dX7_row_107 : decode cX7_row 107 = .ok (.if_icmp .ge 7, 3) := by decide +kernel
theorem dX7_row_110 : decode cX7_row 110 = .ok (.iconst 1, 1) := by decide +kernel
theorem dX7_row_111 : decode cX7_row 111 = .ok (.goto 4, 3) := by decide +kernel
theorem dX7_row_114 : decode cX7_row 114 = .ok (.iconst 0, 1) := by decide +kernel
theorem dX7_row_115 : decode cX7_row 115 = .ok (.istore 4, 2) := by decide +kernel
theorem dX7_row_117 : decode cX7_row 117 = .ok (.iload 4, 2) := by decide +kernel
theorem dX7_row_119 : decode cX7_row 119 = .ok (.ifCond .eq 7, 3) := by decide +kernel
theorem dX7_row_122 : decode cX7_row 122 = .ok (.iconst 1, 1) := by decide +kernel
theorem dX7_row_123 : decode cX7_row 123 = .ok (.goto 4, 3) := by decide +kernel
theorem dX7_row_126 : decode cX7_row 126 = .ok (.iconst 0, 1) := by decide +kernel
theorem dX7_row_127 : decode cX7_row 127 = .ok (.ireturn, 1) := by decide +kernel
set_option maxRecDepth 20000 in
theorem ggX7_answer_X7_in : GoodIn wsX7_answer wsX7_in := goodIn_r _ [4] (by decide +kernel) (by decide +kernel)
set_option maxRecDepth 20000 in
theorem gX7_answer_X7_in : GoodIn wsX7_answer (va_wsS RX7 39 yX7_in wsX7_in) := goodIn_app (goodIn_of _ (by decide +kernel)) ggX7_answer_X7_in
set_option maxRecDepth 20000 in
theorem ggX7_answer_X7_tell : GoodIn wsX7_answer wsX7_tell := goodIn_r _ [8, 9, 10, 11, 3, 12, 13, 14, 15, 16, 17, 18, 19, 20, 21, 22, 23, 24, 25, 1, 2, 4, 26, 27, 28, 29, 30, 31, 32, 33, 34, 35, 36, 37, 38, 39, 40, 41, 42, 43, 44, 45, 46, 47, 48, 49, 50, 51] (by decide +kernel) (by decide +kernel)
set_option maxRecDepth 20000 in
theorem gX7_answer_X7_tell : GoodIn wsX7_answer (wsV RX7 169 RX7 yX7_tell wsX7_tell) := goodIn_app (goodIn_of _ (by decide +kernel)) ggX7_answer_X7_tell
theorem dX7_answer_0 : decode cX7_answer 0 = .ok (.iload_n 1, 1) := by decide +kernel
theorem dX7_answer_1 : decode cX7_answer 1 = .ok (.iconst 0, 1) := by decide +kernel
theorem dX7_answer_2 : decode cX7_answer 2 = .ok (.bipush 9, 2) := by decide +kernel
theorem dX7_answer_4 : decode cX7_answer 4 = .ok (.invokestatic 39, 3) := by decide +kernel
theorem dX7_answer_7 : decode cX7_answer 7 = .ok (.ifCond .eq 21, 3) := by decide +kernel
theorem dX7_answer_10 : decode cX7_answer 10 = .ok (.iload_n 2, 1) := by decide +kernel
theorem dX7_answer_11 : decode cX7_answer 11 = .ok (.iconst 0, 1) := by decide +kernel
theorem dX7_answer_12 : decode cX7_answer 12 = .ok (.iconst 3, 1) := by decide +kernel
theorem dX7_answer_13 : decode cX7_answer 13 = .ok (.invokestatic 39, 3) := by decide +kernel
theorem dX7_answer_16 : decode cX7_answer 16 = .ok (.ifCond .eq 12, 3) := by decide +kernel
theorem dX7_answer_19 : decode cX7_answer 19 = .ok (.aload_n 0, 1) := by decide +kernel
theorem dX7_answer_20 : decode cX7_answer 20 = .ok (.iload_n 1, 1) := by decide +kernel
theorem dX7_answer_21 : decode cX7_answer 21 = .ok (.iload_n 2, 1) := by decide +kernel
theorem dX7_answer_22 : decode cX7_answer 22 = .ok (.invokevirtual 169, 3) := by decide +kernel
theorem dX7_answer_25 : decode cX7_answer 25 = .ok (.goto 4, 3) := by decide +kernel
theorem dX7_answer_28 : decode cX7_answer 28 = .ok (.iconst (-1), 1) := by decide +kernel
theorem dX7_answer_29 : decode cX7_answer 29 = .ok (.ireturn, 1) := by decide +kernel
set_option maxRecDepth 20000 in
theorem ggX7_remembered_X7_in : GoodIn wsX7_remembered wsX7_in := goodIn_r _ [5] (by decide +kernel) (by decide +kernel)
set_option maxRecDepth 20000 in
theorem gX7_remembered_X7_in : GoodIn wsX7_remembered (va_wsS RX7 39 yX7_in wsX7_in) := goodIn_app (goodIn_of _ (by decide +kernel)) ggX7_remembered_X7_in
set_option maxRecDepth 20000 in
theorem ggX7_remembered_X7_isKnown : GoodIn wsX7_remembered wsX7_isKnown := goodIn_r _ [9, 1, 50, 51, 52, 53, 54, 55, 56, 57, 58, 59, 60, 61, 62, 63] (by decide +kernel) (by decide +kernel)
set_option maxRecDepth 20000 in
theorem gX7_remembered_X7_isKnown : GoodIn wsX7_remembered (wsV RX7 66 RX7 yX7_isKnown wsX7_isKnown) := goodIn_app (goodIn_of _ (by decide +kernel)) ggX7_remembered_X7_isKnown
set_option maxRecDepth 20000 in
theorem ggX7_remembered_X7_orderOf : GoodIn wsX7_remembered wsX7_orderOf := goodIn_r _ [13, 6, 7, 8, 4, 9, 1, 14, 15, 16, 17, 50, 51, 52, 53, 54, 55, 56, 57, 58, 59, 60, 61, 62, 63] (by decide +kernel) (by decide +kernel)
set_option maxRecDepth 20000 in
theorem gX7_remembered_X7_orderOf : GoodIn wsX7_remembered (wsV RX7 172 RX7 yX7_orderOf wsX7_orderOf) := goodIn_app (goodIn_of _ (by decide +kernel)) ggX7_remembered_X7_orderOf
set_option maxRecDepth 20000 in
theorem ggX7_remembered_X7_tell : GoodIn wsX7_remembered wsX7_tell := goodIn_r _ [21, 22, 23, 24, 4, 25, 1, 26, 27, 28, 29, 30, 31, 32, 33, 34, 35, 36, 37, 2, 3, 5, 38, 39, 40, 41, 42, 43, 44, 45, 46, 47, 48, 49, 50, 51, 52, 53, 54, 55, 56, 57, 58, 59, 60, 61, 62, 63] (by decide +kernel) (by decide +kernel)
set_option maxRecDepth 20000 in
theorem gX7_remembered_X7_tell : GoodIn wsX7_remembered (wsV RX7 169 RX7 yX7_tell wsX7_tell) := goodIn_app (goodIn_of _ (by decide +kernel)) ggX7_remembered_X7_tell
theorem dX7_remembered_0 : decode cX7_remembered 0 = .ok (.iload_n 1, 1) := by decide +kernel
theorem dX7_remembered_1 : decode cX7_remembered 1 = .ok (.iconst 0, 1) := by decide +kernel
theorem dX7_remembered_2 : decode cX7_remembered 2 = .ok (.bipush 9, 2) := by decide +kernel
theorem dX7_remembered_4 : decode cX7_remembered 4 = .ok (.invokestatic 39, 3) := by decide +kernel
theorem dX7_remembered_7 : decode cX7_remembered 7 = .ok (.ifCond .eq 12, 3) := by decide +kernel
theorem dX7_remembered_10 : decode cX7_remembered 10 = .ok (.iload_n 2, 1) := by decide +kernel
theorem dX7_remembered_11 : decode cX7_remembered 11 = .ok (.iconst 0, 1) := by decide +kernel
theorem dX7_remembered_12 : decode cX7_remembered 12 = .ok (.iconst 5, 1) := by decide +kernel
theorem dX7_remembered_13 : decode cX7_remembered 13 = .ok (.invokestatic 39, 3) := by decide +kernel
theorem dX7_remembered_16 : decode cX7_remembered 16 = .ok (.ifCond .ne 5, 3) := by decide +kernel
theorem dX7_remembered_19 : decode cX7_remembered 19 = .ok (.iconst (-1), 1) := by decide +kernel
theorem dX7_remembered_20 : decode cX7_remembered 20 = .ok (.ireturn, 1) := by decide +kernel
theorem dX7_remembered_21 : decode cX7_remembered 21 = .ok (.aload_n 0, 1) := by decide +kernel
theorem dX7_remembered_22 : decode cX7_remembered 22 = .ok (.iload_n 1, 1) := by decide +kernel
theorem dX7_remembered_23 : decode cX7_remembered 23 = .ok (.invokevirtual 66, 3) := by decide +kernel
theorem dX7_remembered_26 : decode cX7_remembered 26 = .ok (.ifCond .ne 6, 3) := by decide +kernel
theorem dX7_remembered_29 : decode cX7_remembered 29 = .ok (.bipush (-4), 2) := by decide +kernel
theorem dX7_remembered_31 : decode cX7_remembered 31 = .ok (.ireturn, 1) := by decide +kernel
theorem dX7_remembered_32 : decode cX7_remembered 32 = .ok (.iload_n 2, 1) := by decide +kernel
theorem dX7_remembered_33 : decode cX7_remembered 33 = .ok (.iconst 4, 1) := by decide +kernel
theorem dX7_remembered_34 : decode cX7_remembered 34 = .ok (.if_icmp .ne 15, 3) := by decide +kernel
theorem dX7_remembered_37 : decode cX7_remembered 37 = .ok (.aload_n 0, 1) := by decide +kernel
theorem dX7_remembered_38 : decode cX7_remembered 38 = .ok (.getfield 7, 3) := by decide +kernel
theorem dX7_remembered_41 : decode cX7_remembered 41 = .ok (.bipush 97, 2) := by decide +kernel
theorem dX7_remembered_43 : decode cX7_remembered 43 = .ok (.iload_n 1, 1) := by decide +kernel
theorem dX7_remembered_44 : decode cX7_remembered 44 = .ok (.iadd, 1) := by decide +kernel
theorem dX7_remembered_45 : decode cX7_remembered 45 = .ok (.iaload, 1) := by decide +kernel
theorem dX7_remembered_46 : decode cX7_remembered 46 = .ok (.goto 22, 3) := by decide +kernel
theorem dX7_remembered_49 : decode cX7_remembered 49 = .ok (.iload_n 2, 1) := by decide +kernel
theorem dX7_remembered_50 : decode cX7_remembered 50 = .ok (.iconst 5, 1) := by decide +kernel
theorem dX7_remembered_51 : decode cX7_remembered 51 = .ok (.if_icmp .ne 11, 3) := by decide +kernel
theorem dX7_remembered_54 : decode cX7_remembered 54 = .ok (.aload_n 0, 1) := by decide +kernel
theorem dX7_remembered_55 : decode cX7_remembered 55 = .ok (.iload_n 1, 1) := by decide +kernel
theorem dX7_remembered_56 : decode cX7_remembered 56 = .ok (.invokevirtual 172, 3) := by decide +kernel
theorem dX7_remembered_59 : decode cX7_remembered 59 = .ok (.goto 9, 3) := by decide +kernel
theorem dX7_remembered_62 : decode cX7_remembered 62 = .ok (.aload_n 0, 1) := by decide +kernel
theorem dX7_remembered_63 : decode cX7_remembered 63 = .ok (.iload_n 1, 1) := by decide +kernel
theorem dX7_remembered_64 : decode cX7_remembered 64 = .ok (.iload_n 2, 1) := by decide +kernel
theorem dX7_remembered_65 : decode cX7_remembered 65 = .ok (.invokevirtual 169, 3) := by decide +kernel
theorem dX7_remembered_68 : decode cX7_remembered 68 = .ok (.ireturn, 1) := by decide +kernel
set_option maxRecDepth 20000 in
theorem ggX7_count_X7_known : GoodIn wsX7_count wsX7_known := goodIn_r _ [8, 9, 10, 11, 7, 12, 1, 40, 41, 42, 43, 44, 45, 46, 47, 48, 49, 50, 51, 52, 53] (by decide +kernel) (by decide +kernel)
set_option maxRecDepth 20000 in
theorem gX7_count_X7_known : GoodIn wsX7_count (wsV RX7 109 RX7 yX7_known wsX7_known) := goodIn_app (goodIn_of _ (by decide +kernel)) ggX7_count_X7_known
set_option maxRecDepth 20000 in
theorem ggX7_count_X7_weights : GoodIn wsX7_count wsX7_weights := goodIn_r _ [16, 9, 10, 11, 7, 12, 1, 17, 18, 19, 20, 21, 22, 23, 24, 25, 26, 27, 28, 29, 30, 31, 32, 33, 34, 35, 36, 37, 38, 39, 40, 41, 42, 43, 44, 45, 46, 47, 48, 49, 50, 51, 52, 53] (by decide +kernel) (by decide +kernel)
set_option maxRecDepth 20000 in
theorem gX7_count_X7_weights : GoodIn wsX7_count (wsV RX7 76 RX7 yX7_weights wsX7_weights) := goodIn_app (goodIn_of _ (by decide +kernel)) ggX7_count_X7_weights
theorem dX7_count_0 : decode cX7_count 0 = .ok (.iload_n 1, 1) := by decide +kernel
theorem dX7_count_1 : decode cX7_count 1 = .ok (.tableswitch 152 0 19 #[95, 103, 110, 115, 120, 120, 120, 120, 120, 120, 120, 120, 120, 132, 132, 132, 132, 132, 142, 147], 95) := by decide +kernel
theorem dX7_count_96 : decode cX7_count 96 = .ok (.aload_n 0, 1) := by decide +kernel
theorem dX7_count_97 : decode cX7_count 97 = .ok (.getfield 7, 3) := by decide +kernel
theorem dX7_count_100 : decode cX7_count 100 = .ok (.bipush 6, 2) := by decide +kernel
theorem dX7_count_102 : decode cX7_count 102 = .ok (.iaload, 1) := by decide +kernel
theorem dX7_count_103 : decode cX7_count 103 = .ok (.ireturn, 1) := by decide +kernel
theorem dX7_count_104 : decode cX7_count 104 = .ok (.aload_n 0, 1) := by decide +kernel
theorem dX7_count_105 : decode cX7_count 105 = .ok (.getfield 7, 3) := by decide +kernel
theorem dX7_count_108 : decode cX7_count 108 = .ok (.iconst 5, 1) := by decide +kernel
theorem dX7_count_109 : decode cX7_count 109 = .ok (.iaload, 1) := by decide +kernel
theorem dX7_count_110 : decode cX7_count 110 = .ok (.ireturn, 1) := by decide +kernel
theorem dX7_count_111 : decode cX7_count 111 = .ok (.aload_n 0, 1) := by decide +kernel
theorem dX7_count_112 : decode cX7_count 112 = .ok (.invokevirtual 109, 3) := by decide +kernel
theorem dX7_count_115 : decode cX7_count 115 = .ok (.ireturn, 1) := by decide +kernel
theorem dX7_count_116 : decode cX7_count 116 = .ok (.aload_n 0, 1) := by decide +kernel
theorem dX7_count_117 : decode cX7_count 117 = .ok (.invokevirtual 76, 3) := by decide +kernel
theorem dX7_count_120 : decode cX7_count 120 = .ok (.ireturn, 1) := by decide +kernel
theorem dX7_count_121 : decode cX7_count 121 = .ok (.aload_n 0, 1) := by decide +kernel
theorem dX7_count_122 : decode cX7_count 122 = .ok (.getfield 7, 3) := by decide +kernel
theorem dX7_count_125 : decode cX7_count 125 = .ok (.bipush 7, 2) := by decide +kernel
theorem dX7_count_127 : decode cX7_count 127 = .ok (.iload_n 1, 1) := by decide +kernel
theorem dX7_count_128 : decode cX7_count 128 = .ok (.iadd, 1) := by decide +kernel
theorem dX7_count_129 : decode cX7_count 129 = .ok (.iconst 4, 1) := by decide +kernel
theorem dX7_count_130 : decode cX7_count 130 = .ok (.isub, 1) := by decide +kernel
theorem dX7_count_131 : decode cX7_count 131 = .ok (.iaload, 1) := by decide +kernel
theorem dX7_count_132 : decode cX7_count 132 = .ok (.ireturn, 1) := by decide +kernel
theorem dX7_count_133 : decode cX7_count 133 = .ok (.aload_n 0, 1) := by decide +kernel
theorem dX7_count_134 : decode cX7_count 134 = .ok (.getfield 7, 3) := by decide +kernel
theorem dX7_count_137 : decode cX7_count 137 = .ok (.iload_n 1, 1) := by decide +kernel
theorem dX7_count_138 : decode cX7_count 138 = .ok (.bipush 13, 2) := by decide +kernel
theorem dX7_count_140 : decode cX7_count 140 = .ok (.isub, 1) := by decide +kernel
theorem dX7_count_141 : decode cX7_count 141 = .ok (.iaload, 1) := by decide +kernel
theorem dX7_count_142 : decode cX7_count 142 = .ok (.ireturn, 1) := by decide +kernel
theorem dX7_count_143 : decode cX7_count 143 = .ok (.aload_n 0, 1) := by decide +kernel
theorem dX7_count_144 : decode cX7_count 144 = .ok (.getfield 122, 3) := by decide +kernel
theorem dX7_count_147 : decode cX7_count 147 = .ok (.ireturn, 1) := by decide +kernel
theorem dX7_count_148 : decode cX7_count 148 = .ok (.aload_n 0, 1) := by decide +kernel
theorem dX7_count_149 : decode cX7_count 149 = .ok (.getfield 35, 3) := by decide +kernel
theorem dX7_count_152 : decode cX7_count 152 = .ok (.ireturn, 1) := by decide +kernel
theorem dX7_count_153 : decode cX7_count 153 = .ok (.iconst (-1), 1) := by decide +kernel
theorem dX7_count_154 : decode cX7_count 154 = .ok (.ireturn, 1) := by decide +kernel
set_option maxRecDepth 20000 in
theorem ggX7_total_X7_in : GoodIn wsX7_total wsX7_in := goodIn_r _ [5] (by decide +kernel) (by decide +kernel)
set_option maxRecDepth 20000 in
theorem gX7_total_X7_in : GoodIn wsX7_total (va_wsS RX7 39 yX7_in wsX7_in) := goodIn_app (goodIn_of _ (by decide +kernel)) ggX7_total_X7_in
set_option maxRecDepth 20000 in
theorem ggX7_total_X7_sum : GoodIn wsX7_total wsX7_sum := goodIn_r _ [9, 1, 10, 11, 12, 4, 13, 14, 15, 16, 17, 18, 19, 20, 21, 2, 3, 5, 22, 23, 24, 25, 26, 27, 28, 29, 30, 31, 32, 33, 34, 35] (by decide +kernel) (by decide +kernel)
set_option maxRecDepth 20000 in
theorem gX7_total_X7_sum : GoodIn wsX7_total (wsV RX7 60 RX7 yX7_sum wsX7_sum) := goodIn_app (goodIn_of _ (by decide +kernel)) ggX7_total_X7_sum
theorem dX7_total_0 : decode cX7_total 0 = .ok (.iload_n 1, 1) := by decide +kernel
theorem dX7_total_1 : decode cX7_total 1 = .ok (.iconst 0, 1) := by decide +kernel
theorem dX7_total_2 : decode cX7_total 2 = .ok (.iconst 1, 1) := by decide +kernel
theorem dX7_total_3 : decode cX7_total 3 = .ok (.invokestatic 39, 3) := by decide +kernel
theorem dX7_total_6 : decode cX7_total 6 = .ok (.ifCond .ne 5, 3) := by decide +kernel
theorem dX7_total_9 : decode cX7_total 9 = .ok (.iconst (-1), 1) := by decide +kernel
theorem dX7_total_10 : decode cX7_total 10 = .ok (.ireturn, 1) := by decide +kernel
theorem dX7_total_11 : decode cX7_total 11 = .ok (.iconst 0, 1) := by decide +kernel
theorem dX7_total_12 : decode cX7_total 12 = .ok (.istore_n 2, 1) := by decide +kernel
theorem dX7_total_13 : decode cX7_total 13 = .ok (.iconst 0, 1) := by decide +kernel
theorem dX7_total_14 : decode cX7_total 14 = .ok (.istore_n 3, 1) := by decide +kernel
theorem dX7_total_15 : decode cX7_total 15 = .ok (.iload_n 3, 1) := by decide +kernel
theorem dX7_total_16 : decode cX7_total 16 = .ok (.aload_n 0, 1) := by decide +kernel
theorem dX7_total_17 : decode cX7_total 17 = .ok (.getfield 7, 3) := by decide +kernel
theorem dX7_total_20 : decode cX7_total 20 = .ok (.bipush 6, 2) := by decide +kernel
theorem dX7_total_22 : decode cX7_total 22 = .ok (.iaload, 1) := by decide +kernel
theorem dX7_total_23 : decode cX7_total 23 = .ok (.if_icmp .ge 41, 3) := by decide +kernel
theorem dX7_total_26 : decode cX7_total 26 = .ok (.iload_n 2, 1) := by decide +kernel
theorem dX7_total_27 : decode cX7_total 27 = .ok (.aload_n 0, 1) := by decide +kernel
theorem dX7_total_28 : decode cX7_total 28 = .ok (.getfield 7, 3) := by decide +kernel
theorem dX7_total_31 : decode cX7_total 31 = .ok (.bipush 57, 2) := by decide +kernel
theorem dX7_total_33 : decode cX7_total 33 = .ok (.iconst 2, 1) := by decide +kernel
theorem dX7_total_34 : decode cX7_total 34 = .ok (.iload_n 3, 1) := by decide +kernel
theorem dX7_total_35 : decode cX7_total 35 = .ok (.imul, 1) := by decide +kernel
theorem dX7_total_36 : decode cX7_total 36 = .ok (.iadd, 1) := by decide +kernel
theorem dX7_total_37 : decode cX7_total 37 = .ok (.iconst 1, 1) := by decide +kernel
theorem dX7_total_38 : decode cX7_total 38 = .ok (.iadd, 1) := by decide +kernel
theorem dX7_total_39 : decode cX7_total 39 = .ok (.iaload, 1) := by decide +kernel
theorem dX7_total_40 : decode cX7_total 40 = .ok (.aload_n 0, 1) := by decide +kernel
theorem dX7_total_41 : decode cX7_total 41 = .ok (.aload_n 0, 1) := by decide +kernel
theorem dX7_total_42 : decode cX7_total 42 = .ok (.getfield 7, 3) := by decide +kernel
theorem dX7_total_45 : decode cX7_total 45 = .ok (.bipush 57, 2) := by decide +kernel
theorem dX7_total_47 : decode cX7_total 47 = .ok (.iconst 2, 1) := by decide +kernel
theorem dX7_total_48 : decode cX7_total 48 = .ok (.iload_n 3, 1) := by decide +kernel
theorem dX7_total_49 : decode cX7_total 49 = .ok (.imul, 1) := by decide +kernel
theorem dX7_total_50 : decode cX7_total 50 = .ok (.iadd, 1) := by decide +kernel
theorem dX7_total_51 : decode cX7_total 51 = .ok (.iaload, 1) := by decide +kernel
theorem dX7_total_52 : decode cX7_total 52 = .ok (.invokevirtual 60, 3) := by decide +kernel
theorem dX7_total_55 : decode cX7_total 55 = .ok (.imul, 1) := by decide +kernel
theorem dX7_total_56 : decode cX7_total 56 = .ok (.iadd, 1) := by decide +kernel
theorem dX7_total_57 : decode cX7_total 57 = .ok (.istore_n 2, 1) := by decide +kernel
theorem dX7_total_58 : decode cX7_total 58 = .ok (.iinc 3 1, 3) := by decide +kernel
theorem dX7_total_61 : decode cX7_total 61 = .ok (.goto (-46), 3) := by decide +kernel
theorem dX7_total_64 : decode cX7_total 64 = .ok (.iload_n 2, 1) := by decide +kernel
theorem dX7_total_65 : decode cX7_total 65 = .ok (.ireturn, 1) := by decide +kernel
theorem dX7_rate_0 : decode cX7_rate 0 = .ok (.aload_n 0, 1) := by decide +kernel
theorem dX7_rate_1 : decode cX7_rate 1 = .ok (.getfield 7, 3) := by decide +kernel
theorem dX7_rate_4 : decode cX7_rate 4 = .ok (.bipush 9, 2) := by decide +kernel
theorem dX7_rate_6 : decode cX7_rate 6 = .ok (.iaload, 1) := by decide +kernel
theorem dX7_rate_7 : decode cX7_rate 7 = .ok (.i2d, 1) := by decide +kernel
theorem dX7_rate_8 : decode cX7_rate 8 = .ok (.dstore_n 1, 1) := by decide +kernel
theorem dX7_rate_9 : decode cX7_rate 9 = .ok (.aload_n 0, 1) := by decide +kernel
theorem dX7_rate_10 : decode cX7_rate 10 = .ok (.getfield 7, 3) := by decide +kernel
theorem dX7_rate_13 : decode cX7_rate 13 = .ok (.bipush 9, 2) := by decide +kernel
theorem dX7_rate_15 : decode cX7_rate 15 = .ok (.iaload, 1) := by decide +kernel
theorem dX7_rate_16 : decode cX7_rate 16 = .ok (.aload_n 0, 1) := by decide +kernel
theorem dX7_rate_17 : decode cX7_rate 17 = .ok (.getfield 7, 3) := by decide +kernel
theorem dX7_rate_20 : decode cX7_rate 20 = .ok (.bipush 10, 2) := by decide +kernel
theorem dX7_rate_22 : decode cX7_rate 22 = .ok (.iaload, 1) := by decide +kernel
theorem dX7_rate_23 : decode cX7_rate 23 = .ok (.iadd, 1) := by decide +kernel
theorem dX7_rate_24 : decode cX7_rate 24 = .ok (.istore_n 3, 1) := by decide +kernel
theorem dX7_rate_25 : decode cX7_rate 25 = .ok (.iload_n 3, 1) := by decide +kernel
theorem dX7_rate_26 : decode cX7_rate 26 = .ok (.ifCond .ne 7, 3) := by decide +kernel
theorem dX7_rate_29 : decode cX7_rate 29 = .ok (.dconst 0, 1) := by decide +kernel
theorem dX7_rate_30 : decode cX7_rate 30 = .ok (.goto 7, 3) := by decide +kernel
theorem dX7_rate_33 : decode cX7_rate 33 = .ok (.dload_n 1, 1) := by decide +kernel
theorem dX7_rate_34 : decode cX7_rate 34 = .ok (.iload_n 3, 1) := by decide +kernel
theorem dX7_rate_35 : decode cX7_rate 35 = .ok (.i2d, 1) := by decide +kernel
theorem dX7_rate_36 : decode cX7_rate 36 = .ok (.ddiv, 1) := by decide +kernel
theorem dX7_rate_37 : decode cX7_rate 37 = .ok (.dreturn, 1) := by decide +kernel
set_option maxRecDepth 20000 in
theorem ggX7_ifBound_X7_in : GoodIn wsX7_ifBound wsX7_in := goodIn_r _ [5] (by decide +kernel) (by decide +kernel)
set_option maxRecDepth 20000 in
theorem gX7_ifBound_X7_in : GoodIn wsX7_ifBound (va_wsS RX7 39 yX7_in wsX7_in) := goodIn_app (goodIn_of _ (by decide +kernel)) ggX7_ifBound_X7_in
set_option maxRecDepth 20000 in
theorem ggX7_ifBound_X7_putsAside : GoodIn wsX7_ifBound wsX7_putsAside := goodIn_r _ [9, 10, 1, 79, 80, 81, 82, 83, 84, 85, 86, 87, 88, 89, 90, 91, 92] (by decide +kernel) (by decide +kernel)
set_option maxRecDepth 20000 in
theorem gX7_ifBound_X7_putsAside : GoodIn wsX7_ifBound (wsV RX7 175 RX7 yX7_putsAside wsX7_putsAside) := goodIn_app (goodIn_of _ (by decide +kernel)) ggX7_ifBound_X7_putsAside
set_option maxRecDepth 20000 in
theorem ggX7_ifBound_X7_sets : GoodIn wsX7_ifBound wsX7_sets := goodIn_r _ [14, 1, 15, 16, 17, 4, 18, 19, 20, 21, 22, 23, 24, 25, 26, 27, 28, 29, 30, 31, 32, 33, 34, 35, 36, 37, 38, 39, 40, 41, 42, 43, 44, 45, 46, 47, 48, 49, 50, 51, 52, 53, 54, 2, 3, 5, 55, 56, 57, 58, 59, 60, 61, 62, 79, 80, 81, 82, 83, 84, 85, 86, 87, 88, 89, 90, 91, 92] (by decide +kernel) (by decide +kernel)
set_option maxRecDepth 20000 in
theorem gX7_ifBound_X7_sets : GoodIn wsX7_ifBound (wsV RX7 118 RX7 yX7_sets wsX7_sets) := goodIn_app (goodIn_of _ (by decide +kernel)) ggX7_ifBound_X7_sets
set_option maxRecDepth 20000 in
theorem ggX7_ifBound_X7_steps : GoodIn wsX7_ifBound wsX7_steps := goodIn_r _ [66, 1, 67, 68, 69, 4, 70, 23, 24, 25, 26, 35, 36, 37, 38, 39, 40, 41, 42, 43, 44, 45, 46, 47, 48, 49, 50, 51, 52, 53, 54, 2, 3, 5, 15, 16, 17, 18, 19, 20, 21, 22, 27, 28, 29, 30, 31, 32, 33, 34, 71, 72, 73, 74, 79, 80, 81, 82, 83, 84, 85, 86, 87, 88, 89, 90, 91, 92] (by decide +kernel) (by decide +kernel)
set_option maxRecDepth 20000 in
theorem gX7_ifBound_X7_steps : GoodIn wsX7_ifBound (wsV RX7 115 RX7 yX7_steps wsX7_steps) := goodIn_app (goodIn_of _ (by decide +kernel)) ggX7_ifBound_X7_steps
set_option maxRecDepth 20000 in
theorem ggX7_ifBound_X7_putsBack : GoodIn wsX7_ifBound wsX7_putsBack := goodIn_r _ [78, 1, 10, 79, 80, 81, 82, 83, 84, 85, 86, 87, 88, 89, 90, 91, 92] (by decide +kernel) (by decide +kernel)
set_option maxRecDepth 20000 in
theorem gX7_ifBound_X7_putsBack : GoodIn wsX7_ifBound (wsV RX7 178 RX7 yX7_putsBack wsX7_putsBack) := goodIn_app (goodIn_of _ (by decide +kernel)) ggX7_ifBound_X7_putsBack
theorem dX7_ifBound_0 : decode cX7_ifBound 0 = .ok (.iload_n 1, 1) := by decide +kernel
theorem dX7_ifBound_1 : decode cX7_ifBound 1 = .ok (.iconst 0, 1) := by decide +kernel
theorem dX7_ifBound_2 : decode cX7_ifBound 2 = .ok (.bipush 60, 2) := by decide +kernel
theorem dX7_ifBound_4 : decode cX7_ifBound 4 = .ok (.invokestatic 39, 3) := by decide +kernel
theorem dX7_ifBound_7 : decode cX7_ifBound 7 = .ok (.ifCond .eq 12, 3) := by decide +kernel
theorem dX7_ifBound_10 : decode cX7_ifBound 10 = .ok (.iload_n 2, 1) := by decide +kernel
theorem dX7_ifBound_11 : decode cX7_ifBound 11 = .ok (.iconst 0, 1) := by decide +kernel
theorem dX7_ifBound_12 : decode cX7_ifBound 12 = .ok (.iconst 3, 1) := by decide +kernel
theorem dX7_ifBound_13 : decode cX7_ifBound 13 = .ok (.invokestatic 39, 3) := by decide +kernel
theorem dX7_ifBound_16 : decode cX7_ifBound 16 = .ok (.ifCond .ne 5, 3) := by decide +kernel
theorem dX7_ifBound_19 : decode cX7_ifBound 19 = .ok (.iconst (-1), 1) := by decide +kernel
theorem dX7_ifBound_20 : decode cX7_ifBound 20 = .ok (.ireturn, 1) := by decide +kernel
theorem dX7_ifBound_21 : decode cX7_ifBound 21 = .ok (.aload_n 0, 1) := by decide +kernel
theorem dX7_ifBound_22 : decode cX7_ifBound 22 = .ok (.getfield 7, 3) := by decide +kernel
theorem dX7_ifBound_25 : decode cX7_ifBound 25 = .ok (.bipush 9, 2) := by decide +kernel
theorem dX7_ifBound_27 : decode cX7_ifBound 27 = .ok (.iaload, 1) := by decide +kernel
theorem dX7_ifBound_28 : decode cX7_ifBound 28 = .ok (.istore_n 3, 1) := by decide +kernel
theorem dX7_ifBound_29 : decode cX7_ifBound 29 = .ok (.aload_n 0, 1) := by decide +kernel
theorem dX7_ifBound_30 : decode cX7_ifBound 30 = .ok (.getfield 7, 3) := by decide +kernel
theorem dX7_ifBound_33 : decode cX7_ifBound 33 = .ok (.bipush 10, 2) := by decide +kernel
theorem dX7_ifBound_35 : decode cX7_ifBound 35 = .ok (.iaload, 1) := by decide +kernel
theorem dX7_ifBound_36 : decode cX7_ifBound 36 = .ok (.istore 4, 2) := by decide +kernel
theorem dX7_ifBound_38 : decode cX7_ifBound 38 = .ok (.aload_n 0, 1) := by decide +kernel
theorem dX7_ifBound_39 : decode cX7_ifBound 39 = .ok (.getfield 7, 3) := by decide +kernel
theorem dX7_ifBound_42 : decode cX7_ifBound 42 = .ok (.bipush 12, 2) := by decide +kernel
theorem dX7_ifBound_44 : decode cX7_ifBound 44 = .ok (.iaload, 1) := by decide +kernel
theorem dX7_ifBound_45 : decode cX7_ifBound 45 = .ok (.istore 5, 2) := by decide +kernel
theorem dX7_ifBound_47 : decode cX7_ifBound 47 = .ok (.aload_n 0, 1) := by decide +kernel
theorem dX7_ifBound_48 : decode cX7_ifBound 48 = .ok (.invokevirtual 175, 3) := by decide +kernel
theorem dX7_ifBound_51 : decode cX7_ifBound 51 = .ok (.aload_n 0, 1) := by decide +kernel
theorem dX7_ifBound_52 : decode cX7_ifBound 52 = .ok (.iconst 0, 1) := by decide +kernel
theorem dX7_ifBound_53 : decode cX7_ifBound 53 = .ok (.iload_n 1, 1) := by decide +kernel
theorem dX7_ifBound_54 : decode cX7_ifBound 54 = .ok (.invokevirtual 118, 3) := by decide +kernel
theorem dX7_ifBound_57 : decode cX7_ifBound 57 = .ok (.istore 6, 2) := by decide +kernel
theorem dX7_ifBound_59 : decode cX7_ifBound 59 = .ok (.aload_n 0, 1) := by decide +kernel
theorem dX7_ifBound_60 : decode cX7_ifBound 60 = .ok (.iload 6, 2) := by decide +kernel
theorem dX7_ifBound_62 : decode cX7_ifBound 62 = .ok (.ifCond .ge 8, 3) := by decide +kernel
theorem dX7_ifBound_65 : decode cX7_ifBound 65 = .ok (.iload 6, 2) := by decide +kernel
theorem dX7_ifBound_67 : decode cX7_ifBound 67 = .ok (.goto 5, 3) := by decide +kernel
theorem dX7_ifBound_70 : decode cX7_ifBound 70 = .ok (.bipush 20, 2) := by decide +kernel
theorem dX7_ifBound_72 : decode cX7_ifBound 72 = .ok (.invokevirtual 115, 3) := by decide +kernel
theorem dX7_ifBound_75 : decode cX7_ifBound 75 = .ok (.istore 7, 2) := by decide +kernel
theorem dX7_ifBound_77 : decode cX7_ifBound 77 = .ok (.iload_n 2, 1) := by decide +kernel
theorem dX7_ifBound_78 : decode cX7_ifBound 78 = .ok (.ifCond .ne 8, 3) := by decide +kernel
theorem dX7_ifBound_81 : decode cX7_ifBound 81 = .ok (.iload 7, 2) := by decide +kernel
theorem dX7_ifBound_83 : decode cX7_ifBound 83 = .ok (.goto 48, 3) := by decide +kernel
theorem dX7_ifBound_86 : decode cX7_ifBound 86 = .ok (.iload_n 2, 1) := by decide +kernel
theorem dX7_ifBound_87 : decode cX7_ifBound 87 = .ok (.iconst 1, 1) := by decide +kernel
theorem dX7_ifBound_88 : decode cX7_ifBound 88 = .ok (.if_icmp .ne 15, 3) := by decide +kernel
theorem dX7_ifBound_91 : decode cX7_ifBound 91 = .ok (.aload_n 0, 1) := by decide +kernel
theorem dX7_ifBound_92 : decode cX7_ifBound 92 = .ok (.getfield 7, 3) := by decide +kernel
theorem dX7_ifBound_95 : decode cX7_ifBound 95 = .ok (.bipush 9, 2) := by decide +kernel
theorem dX7_ifBound_97 : decode cX7_ifBound 97 = .ok (.iaload, 1) := by decide +kernel
theorem dX7_ifBound_98 : decode cX7_ifBound 98 = .ok (.iload_n 3, 1) := by decide +kernel
theorem dX7_ifBound_99 : decode cX7_ifBound 99 = .ok (.isub, 1) := by decide +kernel
theorem dX7_ifBound_100 : decode cX7_ifBound 100 = .ok (.goto 31, 3) := by decide +kernel
theorem dX7_ifBound_103 : decode cX7_ifBound 103 = .ok (.iload_n 2, 1) := by decide +kernel
theorem dX7_ifBound_104 : decode cX7_ifBound 104 = .ok (.iconst 2, 1) := by decide +kernel
theorem dX7_ifBound_105 : decode cX7_ifBound 105 = .ok (.if_icmp .ne 16, 3) := by decide +kernel
theorem dX7_ifBound_108 : decode cX7_ifBound 108 = .ok (.aload_n 0, 1) := by decide +kernel
theorem dX7_ifBound_109 : decode cX7_ifBound 109 = .ok (.getfield 7, 3) := by decide +kernel
theorem dX7_ifBound_112 : decode cX7_ifBound 112 = .ok (.bipush 10, 2) := by decide +kernel
theorem dX7_ifBound_114 : decode cX7_ifBound 114 = .ok (.iaload, 1) := by decide +kernel
theorem dX7_ifBound_115 : decode cX7_ifBound 115 = .ok (.iload 4, 2) := by decide +kernel
theorem dX7_ifBound_117 : decode cX7_ifBound 117 = .ok (.isub, 1) := by decide +kernel
theorem dX7_ifBound_118 : decode cX7_ifBound 118 = .ok (.goto 13, 3) := by decide +kernel
theorem dX7_ifBound_121 : decode cX7_ifBound 121 = .ok (.aload_n 0, 1) := by decide +kernel
theorem dX7_ifBound_122 : decode cX7_ifBound 122 = .ok (.getfield 7, 3) := by decide +kernel
theorem dX7_ifBound_125 : decode cX7_ifBound 125 = .ok (.bipush 12, 2) := by decide +kernel
theorem dX7_ifBound_127 : decode cX7_ifBound 127 = .ok (.iaload, 1) := by decide +kernel
theorem dX7_ifBound_128 : decode cX7_ifBound 128 = .ok (.iload 5, 2) := by decide +kernel
theorem dX7_ifBound_130 : decode cX7_ifBound 130 = .ok (.isub, 1) := by decide +kernel
theorem dX7_ifBound_131 : decode cX7_ifBound 131 = .ok (.istore 8, 2) := by decide +kernel
theorem dX7_ifBound_133 : decode cX7_ifBound 133 = .ok (.aload_n 0, 1) := by decide +kernel
theorem dX7_ifBound_134 : decode cX7_ifBound 134 = .ok (.invokevirtual 178, 3) := by decide +kernel
theorem dX7_ifBound_137 : decode cX7_ifBound 137 = .ok (.iload 8, 2) := by decide +kernel
theorem dX7_ifBound_139 : decode cX7_ifBound 139 = .ok (.ireturn, 1) := by decide +kernel
theorem dX7_swaps_0 : decode cX7_swaps 0 = .ok (.iconst 0, 1) := by decide +kernel
theorem dX7_swaps_1 : decode cX7_swaps 1 = .ok (.istore_n 3, 1) := by decide +kernel
theorem dX7_swaps_2 : decode cX7_swaps 2 = .ok (.iload_n 3, 1) := by decide +kernel
theorem dX7_swaps_3 : decode cX7_swaps 3 = .ok (.iconst 2, 1) := by decide +kernel
theorem dX7_swaps_4 : decode cX7_swaps 4 = .ok (.if_icmp .ge 65, 3) := by decide +kernel
theorem dX7_swaps_7 : decode cX7_swaps 7 = .ok (.aload_n 0, 1) := by decide +kernel
theorem dX7_swaps_8 : decode cX7_swaps 8 = .ok (.getfield 7, 3) := by decide +kernel
theorem dX7_swaps_11 : decode cX7_swaps 11 = .ok (.bipush 57, 2) := by decide +kernel
theorem dX7_swaps_13 : decode cX7_swaps 13 = .ok (.iconst 2, 1) := by decide +kernel
theorem dX7_swaps_14 : decode cX7_swaps 14 = .ok (.iload_n 1, 1) := by decide +kernel
theorem dX7_swaps_15 : decode cX7_swaps 15 = .ok (.imul, 1) := by decide +kernel
theorem dX7_swaps_16 : decode cX7_swaps 16 = .ok (.iadd, 1) := by decide +kernel
theorem dX7_swaps_17 : decode cX7_swaps 17 = .ok (.iload_n 3, 1) := by decide +kernel
theorem dX7_swaps_18 : decode cX7_swaps 18 = .ok (.iadd, 1) := by decide +kernel
theorem dX7_swaps_19 : decode cX7_swaps 19 = .ok (.iaload, 1) := by decide +kernel
theorem dX7_swaps_20 : decode cX7_swaps 20 = .ok (.istore 4, 2) := by decide +kernel
theorem dX7_swaps_22 : decode cX7_swaps 22 = .ok (.aload_n 0, 1) := by decide +kernel
theorem dX7_swaps_23 : decode cX7_swaps 23 = .ok (.getfield 7, 3) := by decide +kernel
theorem dX7_swaps_26 : decode cX7_swaps 26 = .ok (.bipush 57, 2) := by decide +kernel
theorem dX7_swaps_28 : decode cX7_swaps 28 = .ok (.iconst 2, 1) := by decide +kernel
theorem dX7_swaps_29 : decode cX7_swaps 29 = .ok (.iload_n 1, 1) := by decide +kernel
theorem dX7_swaps_30 : decode cX7_swaps 30 = .ok (.imul, 1) := by decide +kernel
theorem dX7_swaps_31 : decode cX7_swaps 31 = .ok (.iadd, 1) := by decide +kernel
theorem dX7_swaps_32 : decode cX7_swaps 32 = .ok (.iload_n 3, 1) := by decide +kernel
theorem dX7_swaps_33 : decode cX7_swaps 33 = .ok (.iadd, 1) := by decide +kernel
theorem dX7_swaps_34 : decode cX7_swaps 34 = .ok (.aload_n 0, 1) := by decide +kernel
theorem dX7_swaps_35 : decode cX7_swaps 35 = .ok (.getfield 7, 3) := by decide +kernel
theorem dX7_swaps_38 : decode cX7_swaps 38 = .ok (.bipush 57, 2) := by decide +kernel
theorem dX7_swaps_40 : decode cX7_swaps 40 = .ok (.iconst 2, 1) := by decide +kernel
theorem dX7_swaps_41 : decode cX7_swaps 41 = .ok (.iload_n 2, 1) := by decide +kernel
theorem dX7_swaps_42 : decode cX7_swaps 42 = .ok (.imul, 1) := by decide +kernel
theorem dX7_swaps_43 : decode cX7_swaps 43 = .ok (.iadd, 1) := by decide +kernel
theorem dX7_swaps_44 : decode cX7_swaps 44 = .ok (.iload_n 3, 1) := by decide +kernel
theorem dX7_swaps_45 : decode cX7_swaps 45 = .ok (.iadd, 1) := by decide +kernel
theorem dX7_swaps_46 : decode cX7_swaps 46 = .ok (.iaload, 1) := by decide +kernel
theorem dX7_swaps_47 : decode cX7_swaps 47 = .ok (.iastore, 1) := by decide +kernel
theorem dX7_swaps_48 : decode cX7_swaps 48 = .ok (.aload_n 0, 1) := by decide +kernel
theorem dX7_swaps_49 : decode cX7_swaps 49 = .ok (.getfield 7, 3) := by decide +kernel
theorem dX7_swaps_52 : decode cX7_swaps 52 = .ok (.bipush 57, 2) := by decide +kernel
theorem dX7_swaps_54 : decode cX7_swaps 54 = .ok (.iconst 2, 1) := by decide +kernel
theorem dX7_swaps_55 : decode cX7_swaps 55 = .ok (.iload_n 2, 1) := by decide +kernel
theorem dX7_swaps_56 : decode cX7_swaps 56 = .ok (.imul, 1) := by decide +kernel
theorem dX7_swaps_57 : decode cX7_swaps 57 = .ok (.iadd, 1) := by decide +kernel
theorem dX7_swaps_58 : decode cX7_swaps 58 = .ok (.iload_n 3, 1) := by decide +kernel
theorem dX7_swaps_59 : decode cX7_swaps 59 = .ok (.iadd, 1) := by decide +kernel
theorem dX7_swaps_60 : decode cX7_swaps 60 = .ok (.iload 4, 2) := by decide +kernel
theorem dX7_swaps_62 : decode cX7_swaps 62 = .ok (.iastore, 1) := by decide +kernel
theorem dX7_swaps_63 : decode cX7_swaps 63 = .ok (.iinc 3 1, 3) := by decide +kernel
theorem dX7_swaps_66 : decode cX7_swaps 66 = .ok (.goto (-64), 3) := by decide +kernel
theorem dX7_swaps_69 : decode cX7_swaps 69 = .ok (.return_, 1) := by decide +kernel
set_option maxRecDepth 20000 in
theorem ggX7_sorts_X7_swaps : GoodIn wsX7_sorts wsX7_swaps := goodIn_r _ [6, 1, 7, 8, 9, 10, 11, 12, 13, 14, 15, 16, 17, 18, 19, 20] (by decide +kernel) (by decide +kernel)
set_option maxRecDepth 20000 in
theorem gX7_sorts_X7_swaps : GoodIn wsX7_sorts (wsV RX7 181 RX7 yX7_swaps wsX7_swaps) := goodIn_app (goodIn_of _ (by decide +kernel)) ggX7_sorts_X7_swaps
theorem dX7_sorts_0 : decode cX7_sorts 0 = .ok (.aload_n 0, 1) := by decide +kernel
theorem dX7_sorts_1 : decode cX7_sorts 1 = .ok (.getfield 7, 3) := by decide +kernel
theorem dX7_sorts_4 : decode cX7_sorts 4 = .ok (.bipush 7, 2) := by decide +kernel
theorem dX7_sorts_6 : decode cX7_sorts 6 = .ok (.iaload, 1) := by decide +kernel
theorem dX7_sorts_7 : decode cX7_sorts 7 = .ok (.iconst 1, 1) := by decide +kernel
theorem dX7_sorts_8 : decode cX7_sorts 8 = .ok (.iadd, 1) := by decide +kernel
theorem dX7_sorts_9 : decode cX7_sorts 9 = .ok (.istore_n 1, 1) := by decide +kernel
theorem dX7_sorts_10 : decode cX7_sorts 10 = .ok (.iload_n 1, 1) := by decide +kernel
theorem dX7_sorts_11 : decode cX7_sorts 11 = .ok (.aload_n 0, 1) := by decide +kernel
theorem dX7_sorts_12 : decode cX7_sorts 12 = .ok (.getfield 7, 3) := by decide +kernel
theorem dX7_sorts_15 : decode cX7_sorts 15 = .ok (.bipush 6, 2) := by decide +kernel
theorem dX7_sorts_17 : decode cX7_sorts 17 = .ok (.iaload, 1) := by decide +kernel
theorem dX7_sorts_18 : decode cX7_sorts 18 = .ok (.if_icmp .ge 63, 3) := by decide +kernel
theorem dX7_sorts_21 : decode cX7_sorts 21 = .ok (.iload_n 1, 1) := by decide +kernel
theorem dX7_sorts_22 : decode cX7_sorts 22 = .ok (.istore_n 2, 1) := by decide +kernel
theorem dX7_sorts_23 : decode cX7_sorts 23 = .ok (.iload_n 2, 1) := by decide +kernel
theorem dX7_sorts_24 : decode cX7_sorts 24 = .ok (.aload_n 0, 1) := by decide +kernel
theorem dX7_sorts_25 : decode cX7_sorts 25 = .ok (.getfield 7, 3) := by decide +kernel
theorem dX7_sorts_28 : decode cX7_sorts 28 = .ok (.bipush 7, 2) := by decide +kernel
theorem dX7_sorts_30 : decode cX7_sorts 30 = .ok (.iaload, 1) := by decide +kernel
theorem dX7_sorts_31 : decode cX7_sorts 31 = .ok (.if_icmp .le 44, 3) := by decide +kernel
theorem dX7_sorts_34 : decode cX7_sorts 34 = .ok (.aload_n 0, 1) := by decide +kernel
theorem dX7_sorts_35 : decode cX7_sorts 35 = .ok (.getfield 7, 3) := by decide +kernel
theorem dX7_sorts_38 : decode cX7_sorts 38 = .ok (.bipush 57, 2) := by decide +kernel
theorem dX7_sorts_40 : decode cX7_sorts 40 = .ok (.iconst 2, 1) := by decide +kernel
theorem dX7_sorts_41 : decode cX7_sorts 41 = .ok (.iload_n 2, 1) := by decide +kernel
theorem dX7_sorts_42 : decode cX7_sorts 42 = .ok (.imul, 1) := by decide +kernel
theorem dX7_sorts_43 : decode cX7_sorts 43 = .ok (.iadd, 1) := by decide +kernel
theorem dX7_sorts_44 : decode cX7_sorts 44 = .ok (.iaload, 1) := by decide +kernel
theorem dX7_sorts_45 : decode cX7_sorts 45 = .ok (.aload_n 0, 1) := by decide +kernel
theorem dX7_sorts_46 : decode cX7_sorts 46 = .ok (.getfield 7, 3) := by decide +kernel
theorem dX7_sorts_49 : decode cX7_sorts 49 = .ok (.bipush 57, 2) := by decide +kernel
theorem dX7_sorts_51 : decode cX7_sorts 51 = .ok (.iconst 2, 1) := by decide +kernel
theorem dX7_sorts_52 : decode cX7_sorts 52 = .ok (.iload_n 2, 1) := by decide +kernel
theorem dX7_sorts_53 : decode cX7_sorts 53 = .ok (.imul, 1) := by decide +kernel
theorem dX7_sorts_54 : decode cX7_sorts 54 = .ok (.iadd, 1) := by decide +kernel
theorem dX7_sorts_55 : decode cX7_sorts 55 = .ok (.iconst 2, 1) := by decide +kernel
theorem dX7_sorts_56 : decode cX7_sorts 56 = .ok (.isub, 1) := by decide +kernel
theorem dX7_sorts_57 : decode cX7_sorts 57 = .ok (.iaload, 1) := by decide +kernel
theorem dX7_sorts_58 : decode cX7_sorts 58 = .ok (.if_icmp .ge 17, 3) := by decide +kernel
theorem dX7_sorts_61 : decode cX7_sorts 61 = .ok (.aload_n 0, 1) := by decide +kernel
theorem dX7_sorts_62 : decode cX7_sorts 62 = .ok (.iload_n 2, 1) := by decide +kernel
theorem dX7_sorts_63 : decode cX7_sorts 63 = .ok (.iload_n 2, 1) := by decide +kernel
theorem dX7_sorts_64 : decode cX7_sorts 64 = .ok (.iconst 1, 1) := by decide +kernel
theorem dX7_sorts_65 : decode cX7_sorts 65 = .ok (.isub, 1) := by decide +kernel
theorem dX7_sorts_66 : decode cX7_sorts 66 = .ok (.invokevirtual 181, 3) := by decide +kernel
theorem dX7_sorts_69 : decode cX7_sorts 69 = .ok (.iinc 2 (-1), 3) := by decide +kernel
theorem dX7_sorts_72 : decode cX7_sorts 72 = .ok (.goto (-49), 3) := by decide +kernel
theorem dX7_sorts_75 : decode cX7_sorts 75 = .ok (.iinc 1 1, 3) := by decide +kernel
theorem dX7_sorts_78 : decode cX7_sorts 78 = .ok (.goto (-68), 3) := by decide +kernel
theorem dX7_sorts_81 : decode cX7_sorts 81 = .ok (.return_, 1) := by decide +kernel
set_option maxRecDepth 20000 in
theorem ggX7_turns_X7_swaps : GoodIn wsX7_turns wsX7_swaps := goodIn_r _ [6, 1, 7, 8, 9, 10, 11, 12, 13, 14, 15, 16, 17, 18, 19, 20] (by decide +kernel) (by decide +kernel)
set_option maxRecDepth 20000 in
theorem gX7_turns_X7_swaps : GoodIn wsX7_turns (wsV RX7 181 RX7 yX7_swaps wsX7_swaps) := goodIn_app (goodIn_of _ (by decide +kernel)) ggX7_turns_X7_swaps
theorem dX7_turns_0 : decode cX7_turns 0 = .ok (.aload_n 0, 1) := by decide +kernel
theorem dX7_turns_1 : decode cX7_turns 1 = .ok (.getfield 7, 3) := by decide +kernel
theorem dX7_turns_4 : decode cX7_turns 4 = .ok (.bipush 7, 2) := by decide +kernel
theorem dX7_turns_6 : decode cX7_turns 6 = .ok (.iaload, 1) := by decide +kernel
theorem dX7_turns_7 : decode cX7_turns 7 = .ok (.istore_n 1, 1) := by decide +kernel
theorem dX7_turns_8 : decode cX7_turns 8 = .ok (.aload_n 0, 1) := by decide +kernel
theorem dX7_turns_9 : decode cX7_turns 9 = .ok (.getfield 7, 3) := by decide +kernel
theorem dX7_turns_12 : decode cX7_turns 12 = .ok (.bipush 6, 2) := by decide +kernel
theorem dX7_turns_14 : decode cX7_turns 14 = .ok (.iaload, 1) := by decide +kernel
theorem dX7_turns_15 : decode cX7_turns 15 = .ok (.iconst 1, 1) := by decide +kernel
theorem dX7_turns_16 : decode cX7_turns 16 = .ok (.isub, 1) := by decide +kernel
theorem dX7_turns_17 : decode cX7_turns 17 = .ok (.istore_n 2, 1) := by decide +kernel
theorem dX7_turns_18 : decode cX7_turns 18 = .ok (.iload_n 1, 1) := by decide +kernel
theorem dX7_turns_19 : decode cX7_turns 19 = .ok (.iload_n 2, 1) := by decide +kernel
theorem dX7_turns_20 : decode cX7_turns 20 = .ok (.if_icmp .ge 18, 3) := by decide +kernel
theorem dX7_turns_23 : decode cX7_turns 23 = .ok (.aload_n 0, 1) := by decide +kernel
theorem dX7_turns_24 : decode cX7_turns 24 = .ok (.iload_n 1, 1) := by decide +kernel
theorem dX7_turns_25 : decode cX7_turns 25 = .ok (.iload_n 2, 1) := by decide +kernel
theorem dX7_turns_26 : decode cX7_turns 26 = .ok (.invokevirtual 181, 3) := by decide +kernel
theorem dX7_turns_29 : decode cX7_turns 29 = .ok (.iinc 1 1, 3) := by decide +kernel
theorem dX7_turns_32 : decode cX7_turns 32 = .ok (.iinc 2 (-1), 3) := by decide +kernel
theorem dX7_turns_35 : decode cX7_turns 35 = .ok (.goto (-17), 3) := by decide +kernel
theorem dX7_turns_38 : decode cX7_turns 38 = .ok (.return_, 1) := by decide +kernel
set_option maxRecDepth 20000 in
theorem ggX7_ifOrdered_X7_in : GoodIn wsX7_ifOrdered wsX7_in := goodIn_r _ [4] (by decide +kernel) (by decide +kernel)
set_option maxRecDepth 20000 in
theorem gX7_ifOrdered_X7_in : GoodIn wsX7_ifOrdered (va_wsS RX7 39 yX7_in wsX7_in) := goodIn_app (goodIn_of _ (by decide +kernel)) ggX7_ifOrdered_X7_in
set_option maxRecDepth 20000 in
theorem ggX7_ifOrdered_X7_putsAside : GoodIn wsX7_ifOrdered wsX7_putsAside := goodIn_r _ [8, 9, 10, 79, 80, 81, 82, 83, 84, 85, 86, 87, 88, 89, 90, 91, 92] (by decide +kernel) (by decide +kernel)
set_option maxRecDepth 20000 in
theorem gX7_ifOrdered_X7_putsAside : GoodIn wsX7_ifOrdered (wsV RX7 175 RX7 yX7_putsAside wsX7_putsAside) := goodIn_app (goodIn_of _ (by decide +kernel)) ggX7_ifOrdered_X7_putsAside
set_option maxRecDepth 20000 in
theorem ggX7_ifOrdered_X7_sorts : GoodIn wsX7_ifOrdered wsX7_sorts := goodIn_r _ [14, 10, 15, 16, 17, 3, 18, 79, 80, 81, 82, 83, 84, 85, 86, 87, 88, 89, 90, 91, 92] (by decide +kernel) (by decide +kernel)
set_option maxRecDepth 20000 in
theorem gX7_ifOrdered_X7_sorts : GoodIn wsX7_ifOrdered (wsV RX7 184 RX7 yX7_sorts wsX7_sorts) := goodIn_app (goodIn_of _ (by decide +kernel)) ggX7_ifOrdered_X7_sorts
set_option maxRecDepth 20000 in
theorem ggX7_ifOrdered_X7_turns : GoodIn wsX7_ifOrdered wsX7_turns := goodIn_r _ [22, 10, 15, 16, 17, 3, 18, 79, 80, 81, 82, 83, 84, 85, 86, 87, 88, 89, 90, 91, 92] (by decide +kernel) (by decide +kernel)
set_option maxRecDepth 20000 in
theorem gX7_ifOrdered_X7_turns : GoodIn wsX7_ifOrdered (wsV RX7 187 RX7 yX7_turns wsX7_turns) := goodIn_app (goodIn_of _ (by decide +kernel)) ggX7_ifOrdered_X7_turns
set_option maxRecDepth 20000 in
theorem ggX7_ifOrdered_X7_steps : GoodIn wsX7_ifOrdered wsX7_steps := goodIn_r _ [26, 10, 27, 28, 29, 3, 30, 31, 32, 33, 34, 35, 36, 37, 38, 39, 40, 41, 42, 43, 44, 45, 46, 47, 48, 49, 50, 51, 52, 53, 54, 1, 2, 4, 55, 56, 57, 58, 59, 60, 61, 62, 63, 64, 65, 66, 67, 68, 69, 70, 71, 72, 73, 74, 79, 80, 81, 82, 83, 84, 85, 86, 87, 88, 89, 90, 91, 92] (by decide +kernel) (by decide +kernel)
set_option maxRecDepth 20000 in
theorem gX7_ifOrdered_X7_steps : GoodIn wsX7_ifOrdered (wsV RX7 115 RX7 yX7_steps wsX7_steps) := goodIn_app (goodIn_of _ (by decide +kernel)) ggX7_ifOrdered_X7_steps
set_option maxRecDepth 20000 in
theorem ggX7_ifOrdered_X7_putsBack : GoodIn wsX7_ifOrdered wsX7_putsBack := goodIn_r _ [78, 10, 9, 79, 80, 81, 82, 83, 84, 85, 86, 87, 88, 89, 90, 91, 92] (by decide +kernel) (by decide +kernel)
set_option maxRecDepth 20000 in
theorem gX7_ifOrdered_X7_putsBack : GoodIn wsX7_ifOrdered (wsV RX7 178 RX7 yX7_putsBack wsX7_putsBack) := goodIn_app (goodIn_of _ (by decide +kernel)) ggX7_ifOrdered_X7_putsBack
theorem dX7_ifOrdered_0 : decode cX7_ifOrdered 0 = .ok (.iload_n 1, 1) := by decide +kernel
theorem dX7_ifOrdered_1 : decode cX7_ifOrdered 1 = .ok (.iconst 0, 1) := by decide +kernel
theorem dX7_ifOrdered_2 : decode cX7_ifOrdered 2 = .ok (.iconst 2, 1) := by decide +kernel
theorem dX7_ifOrdered_3 : decode cX7_ifOrdered 3 = .ok (.invokestatic 39, 3) := by decide +kernel
theorem dX7_ifOrdered_6 : decode cX7_ifOrdered 6 = .ok (.ifCond .ne 5, 3) := by decide +kernel
theorem dX7_ifOrdered_9 : decode cX7_ifOrdered 9 = .ok (.iconst (-1), 1) := by decide +kernel
theorem dX7_ifOrdered_10 : decode cX7_ifOrdered 10 = .ok (.ireturn, 1) := by decide +kernel
theorem dX7_ifOrdered_11 : decode cX7_ifOrdered 11 = .ok (.aload_n 0, 1) := by decide +kernel
theorem dX7_ifOrdered_12 : decode cX7_ifOrdered 12 = .ok (.invokevirtual 175, 3) := by decide +kernel
theorem dX7_ifOrdered_15 : decode cX7_ifOrdered 15 = .ok (.iload_n 1, 1) := by decide +kernel
theorem dX7_ifOrdered_16 : decode cX7_ifOrdered 16 = .ok (.iconst 1, 1) := by decide +kernel
theorem dX7_ifOrdered_17 : decode cX7_ifOrdered 17 = .ok (.if_icmp .ne 7, 3) := by decide +kernel
theorem dX7_ifOrdered_20 : decode cX7_ifOrdered 20 = .ok (.aload_n 0, 1) := by decide +kernel
theorem dX7_ifOrdered_21 : decode cX7_ifOrdered 21 = .ok (.invokevirtual 184, 3) := by decide +kernel
theorem dX7_ifOrdered_24 : decode cX7_ifOrdered 24 = .ok (.iload_n 1, 1) := by decide +kernel
theorem dX7_ifOrdered_25 : decode cX7_ifOrdered 25 = .ok (.iconst 2, 1) := by decide +kernel
theorem dX7_ifOrdered_26 : decode cX7_ifOrdered 26 = .ok (.if_icmp .ne 7, 3) := by decide +kernel
theorem dX7_ifOrdered_29 : decode cX7_ifOrdered 29 = .ok (.aload_n 0, 1) := by decide +kernel
theorem dX7_ifOrdered_30 : decode cX7_ifOrdered 30 = .ok (.invokevirtual 187, 3) := by decide +kernel
theorem dX7_ifOrdered_33 : decode cX7_ifOrdered 33 = .ok (.aload_n 0, 1) := by decide +kernel
theorem dX7_ifOrdered_34 : decode cX7_ifOrdered 34 = .ok (.bipush 20, 2) := by decide +kernel
theorem dX7_ifOrdered_36 : decode cX7_ifOrdered 36 = .ok (.invokevirtual 115, 3) := by decide +kernel
theorem dX7_ifOrdered_39 : decode cX7_ifOrdered 39 = .ok (.istore_n 2, 1) := by decide +kernel
theorem dX7_ifOrdered_40 : decode cX7_ifOrdered 40 = .ok (.aload_n 0, 1) := by decide +kernel
theorem dX7_ifOrdered_41 : decode cX7_ifOrdered 41 = .ok (.invokevirtual 178, 3) := by decide +kernel
theorem dX7_ifOrdered_44 : decode cX7_ifOrdered 44 = .ok (.iload_n 2, 1) := by decide +kernel
theorem dX7_ifOrdered_45 : decode cX7_ifOrdered 45 = .ok (.ireturn, 1) := by decide +kernel
set_option maxRecDepth 20000 in
theorem ggX7_leastBound_X7_ifBound : GoodIn wsX7_leastBound wsX7_ifBound := goodIn_r _ [5, 6, 7, 8, 4, 9, 10, 11, 12, 13, 14, 15, 16, 17, 18, 19, 20, 21, 22, 23, 24, 25, 26, 27, 28, 29, 30, 31, 32, 33, 34, 35, 36, 37, 38, 39, 40, 41, 42, 43, 44, 45, 46, 47, 48, 49, 50, 51, 52, 53, 54, 55, 56, 57, 58, 59, 60, 61, 62, 63, 64, 65, 66, 67, 68, 69, 70, 71, 72, 73, 74, 75, 76, 77, 78, 79, 80, 81, 82, 83, 84, 85, 86, 87, 88, 89, 90, 91, 92, 93, 94, 95, 96] (by decide +kernel) (by decide +kernel)
set_option maxRecDepth 20000 in
theorem gX7_leastBound_X7_ifBound : GoodIn wsX7_leastBound (wsV RX7 190 RX7 yX7_ifBound wsX7_ifBound) := goodIn_app (goodIn_of _ (by decide +kernel)) ggX7_leastBound_X7_ifBound
theorem dX7_leastBound_0 : decode cX7_leastBound 0 = .ok (.iconst 0, 1) := by decide +kernel
theorem dX7_leastBound_1 : decode cX7_leastBound 1 = .ok (.istore_n 1, 1) := by decide +kernel
theorem dX7_leastBound_2 : decode cX7_leastBound 2 = .ok (.aload_n 0, 1) := by decide +kernel
theorem dX7_leastBound_3 : decode cX7_leastBound 3 = .ok (.iconst 0, 1) := by decide +kernel
theorem dX7_leastBound_4 : decode cX7_leastBound 4 = .ok (.iconst 0, 1) := by decide +kernel
theorem dX7_leastBound_5 : decode cX7_leastBound 5 = .ok (.invokevirtual 190, 3) := by decide +kernel
theorem dX7_leastBound_8 : decode cX7_leastBound 8 = .ok (.istore_n 2, 1) := by decide +kernel
theorem dX7_leastBound_9 : decode cX7_leastBound 9 = .ok (.iconst 1, 1) := by decide +kernel
theorem dX7_leastBound_10 : decode cX7_leastBound 10 = .ok (.istore_n 3, 1) := by decide +kernel
theorem dX7_leastBound_11 : decode cX7_leastBound 11 = .ok (.iload_n 3, 1) := by decide +kernel
theorem dX7_leastBound_12 : decode cX7_leastBound 12 = .ok (.bipush 60, 2) := by decide +kernel
theorem dX7_leastBound_14 : decode cX7_leastBound 14 = .ok (.if_icmp .gt 42, 3) := by decide +kernel
theorem dX7_leastBound_17 : decode cX7_leastBound 17 = .ok (.aload_n 0, 1) := by decide +kernel
theorem dX7_leastBound_18 : decode cX7_leastBound 18 = .ok (.iload_n 3, 1) := by decide +kernel
theorem dX7_leastBound_19 : decode cX7_leastBound 19 = .ok (.iconst 0, 1) := by decide +kernel
theorem dX7_leastBound_20 : decode cX7_leastBound 20 = .ok (.invokevirtual 190, 3) := by decide +kernel
theorem dX7_leastBound_23 : decode cX7_leastBound 23 = .ok (.istore 4, 2) := by decide +kernel
theorem dX7_leastBound_25 : decode cX7_leastBound 25 = .ok (.iload 4, 2) := by decide +kernel
theorem dX7_leastBound_27 : decode cX7_leastBound 27 = .ok (.iload_n 2, 1) := by decide +kernel
theorem dX7_leastBound_28 : decode cX7_leastBound 28 = .ok (.if_icmp .ge 7, 3) := by decide +kernel
theorem dX7_leastBound_31 : decode cX7_leastBound 31 = .ok (.iload_n 3, 1) := by decide +kernel
theorem dX7_leastBound_32 : decode cX7_leastBound 32 = .ok (.goto 4, 3) := by decide +kernel
theorem dX7_leastBound_35 : decode cX7_leastBound 35 = .ok (.iload_n 1, 1) := by decide +kernel
theorem dX7_leastBound_36 : decode cX7_leastBound 36 = .ok (.istore_n 1, 1) := by decide +kernel
theorem dX7_leastBound_37 : decode cX7_leastBound 37 = .ok (.iload 4, 2) := by decide +kernel
theorem dX7_leastBound_39 : decode cX7_leastBound 39 = .ok (.iload_n 2, 1) := by decide +kernel
theorem dX7_leastBound_40 : decode cX7_leastBound 40 = .ok (.if_icmp .ge 8, 3) := by decide +kernel
theorem dX7_leastBound_43 : decode cX7_leastBound 43 = .ok (.iload 4, 2) := by decide +kernel
theorem dX7_leastBound_45 : decode cX7_leastBound 45 = .ok (.goto 4, 3) := by decide +kernel
theorem dX7_leastBound_48 : decode cX7_leastBound 48 = .ok (.iload_n 2, 1) := by decide +kernel
theorem dX7_leastBound_49 : decode cX7_leastBound 49 = .ok (.istore_n 2, 1) := by decide +kernel
theorem dX7_leastBound_50 : decode cX7_leastBound 50 = .ok (.iinc 3 1, 3) := by decide +kernel
theorem dX7_leastBound_53 : decode cX7_leastBound 53 = .ok (.goto (-42), 3) := by decide +kernel
theorem dX7_leastBound_56 : decode cX7_leastBound 56 = .ok (.iload_n 1, 1) := by decide +kernel
theorem dX7_leastBound_57 : decode cX7_leastBound 57 = .ok (.ireturn, 1) := by decide +kernel
theorem dX7_undo_0 : decode cX7_undo 0 = .ok (.aload_n 0, 1) := by decide +kernel
theorem dX7_undo_1 : decode cX7_undo 1 = .ok (.getfield 35, 3) := by decide +kernel
theorem dX7_undo_4 : decode cX7_undo 4 = .ok (.ifCond .ne 6, 3) := by decide +kernel
theorem dX7_undo_7 : decode cX7_undo 7 = .ok (.bipush (-2), 2) := by decide +kernel
theorem dX7_undo_9 : decode cX7_undo 9 = .ok (.ireturn, 1) := by decide +kernel
theorem dX7_undo_10 : decode cX7_undo 10 = .ok (.aload_n 0, 1) := by decide +kernel
theorem dX7_undo_11 : decode cX7_undo 11 = .ok (.dup, 1) := by decide +kernel
theorem dX7_undo_12 : decode cX7_undo 12 = .ok (.getfield 35, 3) := by decide +kernel
theorem dX7_undo_15 : decode cX7_undo 15 = .ok (.iconst 1, 1) := by decide +kernel
theorem dX7_undo_16 : decode cX7_undo 16 = .ok (.isub, 1) := by decide +kernel
theorem dX7_undo_17 : decode cX7_undo 17 = .ok (.putfield 35, 3) := by decide +kernel
theorem dX7_undo_20 : decode cX7_undo 20 = .ok (.iconst 0, 1) := by decide +kernel
theorem dX7_undo_21 : decode cX7_undo 21 = .ok (.istore_n 1, 1) := by decide +kernel
theorem dX7_undo_22 : decode cX7_undo 22 = .ok (.iload_n 1, 1) := by decide +kernel
theorem dX7_undo_23 : decode cX7_undo 23 = .ok (.bipush 127, 2) := by decide +kernel
theorem dX7_undo_25 : decode cX7_undo 25 = .ok (.if_icmp .ge 29, 3) := by decide +kernel
theorem dX7_undo_28 : decode cX7_undo 28 = .ok (.aload_n 0, 1) := by decide +kernel
theorem dX7_undo_29 : decode cX7_undo 29 = .ok (.getfield 7, 3) := by decide +kernel
theorem dX7_undo_32 : decode cX7_undo 32 = .ok (.iload_n 1, 1) := by decide +kernel
theorem dX7_undo_33 : decode cX7_undo 33 = .ok (.aload_n 0, 1) := by decide +kernel
theorem dX7_undo_34 : decode cX7_undo 34 = .ok (.getfield 13, 3) := by decide +kernel
theorem dX7_undo_37 : decode cX7_undo 37 = .ok (.bipush 127, 2) := by decide +kernel
theorem dX7_undo_39 : decode cX7_undo 39 = .ok (.aload_n 0, 1) := by decide +kernel
theorem dX7_undo_40 : decode cX7_undo 40 = .ok (.getfield 35, 3) := by decide +kernel
theorem dX7_undo_43 : decode cX7_undo 43 = .ok (.imul, 1) := by decide +kernel
theorem dX7_undo_44 : decode cX7_undo 44 = .ok (.iload_n 1, 1) := by decide +kernel
theorem dX7_undo_45 : decode cX7_undo 45 = .ok (.iadd, 1) := by decide +kernel
theorem dX7_undo_46 : decode cX7_undo 46 = .ok (.iaload, 1) := by decide +kernel
theorem dX7_undo_47 : decode cX7_undo 47 = .ok (.iastore, 1) := by decide +kernel
theorem dX7_undo_48 : decode cX7_undo 48 = .ok (.iinc 1 1, 3) := by decide +kernel
theorem dX7_undo_51 : decode cX7_undo 51 = .ok (.goto (-29), 3) := by decide +kernel
theorem dX7_undo_54 : decode cX7_undo 54 = .ok (.aload_n 0, 1) := by decide +kernel
theorem dX7_undo_55 : decode cX7_undo 55 = .ok (.getfield 35, 3) := by decide +kernel
theorem dX7_undo_58 : decode cX7_undo 58 = .ok (.ireturn, 1) := by decide +kernel
set_option maxRecDepth 20000 in
theorem ggX7_save_X7_known : GoodIn wsX7_save wsX7_known := goodIn_r _ [8, 9, 10, 11, 7, 12, 3, 13, 14, 15, 16, 17, 18, 19, 20, 21, 22, 23, 24, 25, 26] (by decide +kernel) (by decide +kernel)
set_option maxRecDepth 20000 in
theorem gX7_save_X7_known : GoodIn wsX7_save (wsV RX7 109 RX7 yX7_known wsX7_known) := goodIn_app (goodIn_of _ (by decide +kernel)) ggX7_save_X7_known
theorem dX7_save_0 : decode cX7_save 0 = .ok (.aload_n 0, 1) := by decide +kernel
theorem dX7_save_1 : decode cX7_save 1 = .ok (.iconst 1, 1) := by decide +kernel
theorem dX7_save_2 : decode cX7_save 2 = .ok (.putfield 193, 3) := by decide +kernel
theorem dX7_save_5 : decode cX7_save 5 = .ok (.iconst 0, 1) := by decide +kernel
theorem dX7_save_6 : decode cX7_save 6 = .ok (.istore_n 1, 1) := by decide +kernel
theorem dX7_save_7 : decode cX7_save 7 = .ok (.iload_n 1, 1) := by decide +kernel
theorem dX7_save_8 : decode cX7_save 8 = .ok (.bipush 127, 2) := by decide +kernel
theorem dX7_save_10 : decode cX7_save 10 = .ok (.if_icmp .ge 21, 3) := by decide +kernel
theorem dX7_save_13 : decode cX7_save 13 = .ok (.aload_n 0, 1) := by decide +kernel
theorem dX7_save_14 : decode cX7_save 14 = .ok (.getfield 16, 3) := by decide +kernel
theorem dX7_save_17 : decode cX7_save 17 = .ok (.iload_n 1, 1) := by decide +kernel
theorem dX7_save_18 : decode cX7_save 18 = .ok (.aload_n 0, 1) := by decide +kernel
theorem dX7_save_19 : decode cX7_save 19 = .ok (.getfield 7, 3) := by decide +kernel
theorem dX7_save_22 : decode cX7_save 22 = .ok (.iload_n 1, 1) := by decide +kernel
theorem dX7_save_23 : decode cX7_save 23 = .ok (.iaload, 1) := by decide +kernel
theorem dX7_save_24 : decode cX7_save 24 = .ok (.iastore, 1) := by decide +kernel
theorem dX7_save_25 : decode cX7_save 25 = .ok (.iinc 1 1, 3) := by decide +kernel
theorem dX7_save_28 : decode cX7_save 28 = .ok (.goto (-21), 3) := by decide +kernel
theorem dX7_save_31 : decode cX7_save 31 = .ok (.aload_n 0, 1) := by decide +kernel
theorem dX7_save_32 : decode cX7_save 32 = .ok (.invokevirtual 109, 3) := by decide +kernel
theorem dX7_save_35 : decode cX7_save 35 = .ok (.ireturn, 1) := by decide +kernel
set_option maxRecDepth 20000 in
theorem ggX7_restore_X7_changes : GoodIn wsX7_restore wsX7_changes := goodIn_r _ [8, 9, 10, 11, 2, 20, 21, 22, 23, 24, 25, 26, 27, 28, 29, 30, 31, 32, 33] (by decide +kernel) (by decide +kernel)
set_option maxRecDepth 20000 in
theorem gX7_restore_X7_changes : GoodIn wsX7_restore (wsV RX7 96 RX7 yX7_changes wsX7_changes) := goodIn_app (goodIn_of _ (by decide +kernel)) ggX7_restore_X7_changes
set_option maxRecDepth 20000 in
theorem ggX7_restore_X7_known : GoodIn wsX7_restore wsX7_known := goodIn_r _ [15, 16, 17, 18, 7, 19, 2, 20, 21, 22, 23, 24, 25, 26, 27, 28, 29, 30, 31, 32, 33] (by decide +kernel) (by decide +kernel)
set_option maxRecDepth 20000 in
theorem gX7_restore_X7_known : GoodIn wsX7_restore (wsV RX7 109 RX7 yX7_known wsX7_known) := goodIn_app (goodIn_of _ (by decide +kernel)) ggX7_restore_X7_known
theorem dX7_restore_0 : decode cX7_restore 0 = .ok (.aload_n 0, 1) := by decide +kernel
theorem dX7_restore_1 : decode cX7_restore 1 = .ok (.getfield 193, 3) := by decide +kernel
theorem dX7_restore_4 : decode cX7_restore 4 = .ok (.ifCond .ne 6, 3) := by decide +kernel
theorem dX7_restore_7 : decode cX7_restore 7 = .ok (.bipush (-2), 2) := by decide +kernel
theorem dX7_restore_9 : decode cX7_restore 9 = .ok (.ireturn, 1) := by decide +kernel
theorem dX7_restore_10 : decode cX7_restore 10 = .ok (.aload_n 0, 1) := by decide +kernel
theorem dX7_restore_11 : decode cX7_restore 11 = .ok (.invokevirtual 96, 3) := by decide +kernel
theorem dX7_restore_14 : decode cX7_restore 14 = .ok (.iconst 0, 1) := by decide +kernel
theorem dX7_restore_15 : decode cX7_restore 15 = .ok (.istore_n 1, 1) := by decide +kernel
theorem dX7_restore_16 : decode cX7_restore 16 = .ok (.iload_n 1, 1) := by decide +kernel
theorem dX7_restore_17 : decode cX7_restore 17 = .ok (.bipush 127, 2) := by decide +kernel
theorem dX7_restore_19 : decode cX7_restore 19 = .ok (.if_icmp .ge 21, 3) := by decide +kernel
theorem dX7_restore_22 : decode cX7_restore 22 = .ok (.aload_n 0, 1) := by decide +kernel
theorem dX7_restore_23 : decode cX7_restore 23 = .ok (.getfield 7, 3) := by decide +kernel
theorem dX7_restore_26 : decode cX7_restore 26 = .ok (.iload_n 1, 1) := by decide +kernel
theorem dX7_restore_27 : decode cX7_restore 27 = .ok (.aload_n 0, 1) := by decide +kernel
theorem dX7_restore_28 : decode cX7_restore 28 = .ok (.getfield 16, 3) := by decide +kernel
theorem dX7_restore_31 : decode cX7_restore 31 = .ok (.iload_n 1, 1) := by decide +kernel
theorem dX7_restore_32 : decode cX7_restore 32 = .ok (.iaload, 1) := by decide +kernel
theorem dX7_restore_33 : decode cX7_restore 33 = .ok (.iastore, 1) := by decide +kernel
theorem dX7_restore_34 : decode cX7_restore 34 = .ok (.iinc 1 1, 3) := by decide +kernel
theorem dX7_restore_37 : decode cX7_restore 37 = .ok (.goto (-21), 3) := by decide +kernel
theorem dX7_restore_40 : decode cX7_restore 40 = .ok (.aload_n 0, 1) := by decide +kernel
theorem dX7_restore_41 : decode cX7_restore 41 = .ok (.invokevirtual 109, 3) := by decide +kernel
theorem dX7_restore_44 : decode cX7_restore 44 = .ok (.ireturn, 1) := by decide +kernel
theorem dJ9_min_7cf53_0 : decode cJ9_min_7cf53 0 = .ok (.iload_n 0, 1) := by decide +kernel
theorem dJ9_min_7cf53_1 : decode cJ9_min_7cf53 1 = .ok (.iload_n 1, 1) := by decide +kernel
theorem dJ9_min_7cf53_2 : decode cJ9_min_7cf53 2 = .ok (.if_icmp .gt 7, 3) := by decide +kernel
theorem dJ9_min_7cf53_5 : decode cJ9_min_7cf53 5 = .ok (.iload_n 0, 1) := by decide +kernel
theorem dJ9_min_7cf53_6 : decode cJ9_min_7cf53 6 = .ok (.goto 4, 3) := by decide +kernel
theorem dJ9_min_7cf53_9 : decode cJ9_min_7cf53 9 = .ok (.iload_n 1, 1) := by decide +kernel
theorem dJ9_min_7cf53_10 : decode cJ9_min_7cf53 10 = .ok (.ireturn, 1) := by decide +kernel
abbrev vwCl : List vw_C := [(RX0, TX0, 3), (RX1, TX1, 3), (RX2, TX2, 4), (RX3, TX3, 9), (RX4, TX4, 8), (RX5, TX5, 3), (RX6, TX6, 9), (RX7, TX7, 14)]



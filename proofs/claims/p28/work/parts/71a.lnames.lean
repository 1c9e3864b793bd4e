theorem dL_cell_0 : decode cL_cell 0 = .ok (.iload_n 1, 1) := by decide +kernel
theorem dL_cell_1 : decode cL_cell 1 = .ok (.aload_n 0, 1) := by decide +kernel
theorem dL_cell_2 : decode cL_cell 2 = .ok (.arraylength, 1) := by decide +kernel
theorem dL_cell_3 : decode cL_cell 3 = .ok (.if_icmp .ge 9, 3) := by decide +kernel
theorem dL_cell_6 : decode cL_cell 6 = .ok (.aload_n 0, 1) := by decide +kernel
theorem dL_cell_7 : decode cL_cell 7 = .ok (.iload_n 1, 1) := by decide +kernel
theorem dL_cell_8 : decode cL_cell 8 = .ok (.iaload, 1) := by decide +kernel
theorem dL_cell_9 : decode cL_cell 9 = .ok (.goto 9, 3) := by decide +kernel
theorem dL_cell_12 : decode cL_cell 12 = .ok (.ldc 7, 2) := by decide +kernel
theorem dL_cell_14 : decode cL_cell 14 = .ok (.iload_n 1, 1) := by decide +kernel
theorem dL_cell_15 : decode cL_cell 15 = .ok (.iconst 3, 1) := by decide +kernel
theorem dL_cell_16 : decode cL_cell 16 = .ok (.iadd, 1) := by decide +kernel
theorem dL_cell_17 : decode cL_cell 17 = .ok (.imul, 1) := by decide +kernel
theorem dL_cell_18 : decode cL_cell 18 = .ok (.ireturn, 1) := by decide +kernel
theorem dL_weight_0 : decode cL_weight 0 = .ok (.iload_n 3, 1) := by decide +kernel
theorem dL_weight_1 : decode cL_weight 1 = .ok (.ifCond .eq 7, 3) := by decide +kernel
theorem dL_weight_4 : decode cL_weight 4 = .ok (.iconst 0, 1) := by decide +kernel
theorem dL_weight_5 : decode cL_weight 5 = .ok (.goto 4, 3) := by decide +kernel
theorem dL_weight_8 : decode cL_weight 8 = .ok (.iconst 2, 1) := by decide +kernel
theorem dL_weight_9 : decode cL_weight 9 = .ok (.istore 4, 2) := by decide +kernel
theorem dL_weight_11 : decode cL_weight 11 = .ok (.iconst 0, 1) := by decide +kernel
theorem dL_weight_12 : decode cL_weight 12 = .ok (.istore 5, 2) := by decide +kernel
theorem dL_weight_14 : decode cL_weight 14 = .ok (.iload 5, 2) := by decide +kernel
theorem dL_weight_16 : decode cL_weight 16 = .ok (.aload_n 0, 1) := by decide +kernel
theorem dL_weight_17 : decode cL_weight 17 = .ok (.iconst 5, 1) := by decide +kernel
theorem dL_weight_18 : decode cL_weight 18 = .ok (.iaload, 1) := by decide +kernel
theorem dL_weight_19 : decode cL_weight 19 = .ok (.if_icmp .ge 64, 3) := by decide +kernel
theorem dL_weight_22 : decode cL_weight 22 = .ok (.aload_n 1, 1) := by decide +kernel
theorem dL_weight_23 : decode cL_weight 23 = .ok (.iconst 2, 1) := by decide +kernel
theorem dL_weight_24 : decode cL_weight 24 = .ok (.iload 5, 2) := by decide +kernel
theorem dL_weight_26 : decode cL_weight 26 = .ok (.imul, 1) := by decide +kernel
theorem dL_weight_27 : decode cL_weight 27 = .ok (.iconst 1, 1) := by decide +kernel
theorem dL_weight_28 : decode cL_weight 28 = .ok (.iadd, 1) := by decide +kernel
theorem dL_weight_29 : decode cL_weight 29 = .ok (.iaload, 1) := by decide +kernel
theorem dL_weight_30 : decode cL_weight 30 = .ok (.istore 6, 2) := by decide +kernel
theorem dL_weight_32 : decode cL_weight 32 = .ok (.iload 4, 2) := by decide +kernel
theorem dL_weight_34 : decode cL_weight 34 = .ok (.aload_n 1, 1) := by decide +kernel
theorem dL_weight_35 : decode cL_weight 35 = .ok (.iconst 2, 1) := by decide +kernel
theorem dL_weight_36 : decode cL_weight 36 = .ok (.iload 5, 2) := by decide +kernel
theorem dL_weight_38 : decode cL_weight 38 = .ok (.imul, 1) := by decide +kernel
theorem dL_weight_39 : decode cL_weight 39 = .ok (.iaload, 1) := by decide +kernel
theorem dL_weight_40 : decode cL_weight 40 = .ok (.iload_n 2, 1) := by decide +kernel
theorem dL_weight_41 : decode cL_weight 41 = .ok (.if_icmp .ne 32, 3) := by decide +kernel
theorem dL_weight_44 : decode cL_weight 44 = .ok (.iload 6, 2) := by decide +kernel
theorem dL_weight_46 : decode cL_weight 46 = .ok (.aload_n 0, 1) := by decide +kernel
theorem dL_weight_47 : decode cL_weight 47 = .ok (.iconst 3, 1) := by decide +kernel
theorem dL_weight_48 : decode cL_weight 48 = .ok (.iaload, 1) := by decide +kernel
theorem dL_weight_49 : decode cL_weight 49 = .ok (.if_icmp .lt 24, 3) := by decide +kernel
theorem dL_weight_52 : decode cL_weight 52 = .ok (.iload 6, 2) := by decide +kernel
theorem dL_weight_54 : decode cL_weight 54 = .ok (.aload_n 0, 1) := by decide +kernel
theorem dL_weight_55 : decode cL_weight 55 = .ok (.iconst 4, 1) := by decide +kernel
theorem dL_weight_56 : decode cL_weight 56 = .ok (.iaload, 1) := by decide +kernel
theorem dL_weight_57 : decode cL_weight 57 = .ok (.if_icmp .gt 16, 3) := by decide +kernel
theorem dL_weight_60 : decode cL_weight 60 = .ok (.iload_n 3, 1) := by decide +kernel
theorem dL_weight_61 : decode cL_weight 61 = .ok (.ifCond .eq 8, 3) := by decide +kernel
theorem dL_weight_64 : decode cL_weight 64 = .ok (.iload 6, 2) := by decide +kernel
theorem dL_weight_66 : decode cL_weight 66 = .ok (.goto 8, 3) := by decide +kernel
theorem dL_weight_69 : decode cL_weight 69 = .ok (.iconst 1, 1) := by decide +kernel
theorem dL_weight_70 : decode cL_weight 70 = .ok (.goto 4, 3) := by decide +kernel
theorem dL_weight_73 : decode cL_weight 73 = .ok (.iconst 0, 1) := by decide +kernel
theorem dL_weight_74 : decode cL_weight 74 = .ok (.iadd, 1) := by decide +kernel
theorem dL_weight_75 : decode cL_weight 75 = .ok (.istore 4, 2) := by decide +kernel
theorem dL_weight_77 : decode cL_weight 77 = .ok (.iinc 5 1, 3) := by decide +kernel
theorem dL_weight_80 : decode cL_weight 80 = .ok (.goto (-66), 3) := by decide +kernel
theorem dL_weight_83 : decode cL_weight 83 = .ok (.iload 4, 2) := by decide +kernel
theorem dL_weight_85 : decode cL_weight 85 = .ok (.ireturn, 1) := by decide +kernel
theorem dL_many_0 : decode cL_many 0 = .ok (.iconst 0, 1) := by decide +kernel
theorem dL_many_1 : decode cL_many 1 = .ok (.istore_n 1, 1) := by decide +kernel
theorem dL_many_2 : decode cL_many 2 = .ok (.iload_n 1, 1) := by decide +kernel
theorem dL_many_3 : decode cL_many 3 = .ok (.bipush 10, 2) := by decide +kernel
theorem dL_many_5 : decode cL_many 5 = .ok (.if_icmp .ge 15, 3) := by decide +kernel
theorem dL_many_8 : decode cL_many 8 = .ok (.aload_n 0, 1) := by decide +kernel
theorem dL_many_9 : decode cL_many 9 = .ok (.iload_n 1, 1) := by decide +kernel
theorem dL_many_10 : decode cL_many 10 = .ok (.iaload, 1) := by decide +kernel
theorem dL_many_11 : decode cL_many 11 = .ok (.ifCond .lt 9, 3) := by decide +kernel
theorem dL_many_14 : decode cL_many 14 = .ok (.iinc 1 1, 3) := by decide +kernel
theorem dL_many_17 : decode cL_many 17 = .ok (.goto (-15), 3) := by decide +kernel
theorem dL_many_20 : decode cL_many 20 = .ok (.iload_n 1, 1) := by decide +kernel
theorem dL_many_21 : decode cL_many 21 = .ok (.ireturn, 1) := by decide +kernel
theorem dL_out_0 : decode cL_out 0 = .ok (.iconst 0, 1) := by decide +kernel
theorem dL_out_1 : decode cL_out 1 = .ok (.istore_n 2, 1) := by decide +kernel
theorem dL_out_2 : decode cL_out 2 = .ok (.iconst 0, 1) := by decide +kernel
theorem dL_out_3 : decode cL_out 3 = .ok (.istore_n 3, 1) := by decide +kernel
theorem dL_out_4 : decode cL_out 4 = .ok (.iload_n 3, 1) := by decide +kernel
theorem dL_out_5 : decode cL_out 5 = .ok (.bipush 10, 2) := by decide +kernel
theorem dL_out_7 : decode cL_out 7 = .ok (.if_icmp .ge 37, 3) := by decide +kernel
theorem dL_out_10 : decode cL_out 10 = .ok (.aload_n 0, 1) := by decide +kernel
theorem dL_out_11 : decode cL_out 11 = .ok (.iload_n 3, 1) := by decide +kernel
theorem dL_out_12 : decode cL_out 12 = .ok (.iaload, 1) := by decide +kernel
theorem dL_out_13 : decode cL_out 13 = .ok (.istore 4, 2) := by decide +kernel
theorem dL_out_15 : decode cL_out 15 = .ok (.aload_n 0, 1) := by decide +kernel
theorem dL_out_16 : decode cL_out 16 = .ok (.iload_n 3, 1) := by decide +kernel
theorem dL_out_17 : decode cL_out 17 = .ok (.iconst (-1), 1) := by decide +kernel
theorem dL_out_18 : decode cL_out 18 = .ok (.iastore, 1) := by decide +kernel
theorem dL_out_19 : decode cL_out 19 = .ok (.iload 4, 2) := by decide +kernel
theorem dL_out_21 : decode cL_out 21 = .ok (.ifCond .lt 17, 3) := by decide +kernel
theorem dL_out_24 : decode cL_out 24 = .ok (.iload 4, 2) := by decide +kernel
theorem dL_out_26 : decode cL_out 26 = .ok (.iload_n 1, 1) := by decide +kernel
theorem dL_out_27 : decode cL_out 27 = .ok (.if_icmp .eq 11, 3) := by decide +kernel
theorem dL_out_30 : decode cL_out 30 = .ok (.aload_n 0, 1) := by decide +kernel
theorem dL_out_31 : decode cL_out 31 = .ok (.iload_n 2, 1) := by decide +kernel
theorem dL_out_32 : decode cL_out 32 = .ok (.iload 4, 2) := by decide +kernel
theorem dL_out_34 : decode cL_out 34 = .ok (.iastore, 1) := by decide +kernel
theorem dL_out_35 : decode cL_out 35 = .ok (.iinc 2 1, 3) := by decide +kernel
theorem dL_out_38 : decode cL_out 38 = .ok (.iinc 3 1, 3) := by decide +kernel
theorem dL_out_41 : decode cL_out 41 = .ok (.goto (-37), 3) := by decide +kernel
theorem dL_out_44 : decode cL_out 44 = .ok (.return_, 1) := by decide +kernel
theorem dL_has_0 : decode cL_has 0 = .ok (.iconst 0, 1) := by decide +kernel
theorem dL_has_1 : decode cL_has 1 = .ok (.istore_n 2, 1) := by decide +kernel
theorem dL_has_2 : decode cL_has 2 = .ok (.iconst 0, 1) := by decide +kernel
theorem dL_has_3 : decode cL_has 3 = .ok (.istore_n 3, 1) := by decide +kernel
theorem dL_has_4 : decode cL_has 4 = .ok (.iload_n 3, 1) := by decide +kernel
theorem dL_has_5 : decode cL_has 5 = .ok (.bipush 10, 2) := by decide +kernel
theorem dL_has_7 : decode cL_has 7 = .ok (.if_icmp .ge 26, 3) := by decide +kernel
theorem dL_has_10 : decode cL_has 10 = .ok (.iload_n 2, 1) := by decide +kernel
theorem dL_has_11 : decode cL_has 11 = .ok (.ifCond .ne 10, 3) := by decide +kernel
theorem dL_has_14 : decode cL_has 14 = .ok (.aload_n 0, 1) := by decide +kernel
theorem dL_has_15 : decode cL_has 15 = .ok (.iload_n 3, 1) := by decide +kernel
theorem dL_has_16 : decode cL_has 16 = .ok (.iaload, 1) := by decide +kernel
theorem dL_has_17 : decode cL_has 17 = .ok (.iload_n 1, 1) := by decide +kernel
theorem dL_has_18 : decode cL_has 18 = .ok (.if_icmp .ne 7, 3) := by decide +kernel
theorem dL_has_21 : decode cL_has 21 = .ok (.iconst 1, 1) := by decide +kernel
theorem dL_has_22 : decode cL_has 22 = .ok (.goto 4, 3) := by decide +kernel
theorem dL_has_25 : decode cL_has 25 = .ok (.iconst 0, 1) := by decide +kernel
theorem dL_has_26 : decode cL_has 26 = .ok (.istore_n 2, 1) := by decide +kernel
theorem dL_has_27 : decode cL_has 27 = .ok (.iinc 3 1, 3) := by decide +kernel
theorem dL_has_30 : decode cL_has 30 = .ok (.goto (-26), 3) := by decide +kernel
theorem dL_has_33 : decode cL_has 33 = .ok (.iload_n 2, 1) := by decide +kernel
theorem dL_has_34 : decode cL_has 34 = .ok (.ireturn, 1) := by decide +kernel
set_option maxRecDepth 20000 in
theorem ggL_weights_L_many : GoodIn wsL_weights wsL_many := goodIn_r _ [4] (by decide +kernel) (by decide +kernel)
set_option maxRecDepth 20000 in
theorem gL_weights_L_many : GoodIn wsL_weights (va_wsS RL 9 yL_many wsL_many) := goodIn_app (goodIn_of _ (by decide +kernel)) ggL_weights_L_many
set_option maxRecDepth 20000 in
theorem ggL_weights_L_weight : GoodIn wsL_weights wsL_weight := goodIn_r _ [7] (by decide +kernel) (by decide +kernel)
set_option maxRecDepth 20000 in
theorem gL_weights_L_weight : GoodIn wsL_weights (va_wsS RL 15 yL_weight wsL_weight) := goodIn_app (goodIn_of _ (by decide +kernel)) ggL_weights_L_weight
theorem dL_weights_0 : decode cL_weights 0 = .ok (.iconst 0, 1) := by decide +kernel
theorem dL_weights_1 : decode cL_weights 1 = .ok (.istore_n 3, 1) := by decide +kernel
theorem dL_weights_2 : decode cL_weights 2 = .ok (.iconst 0, 1) := by decide +kernel
theorem dL_weights_3 : decode cL_weights 3 = .ok (.istore 4, 2) := by decide +kernel
theorem dL_weights_5 : decode cL_weights 5 = .ok (.iload 4, 2) := by decide +kernel
theorem dL_weights_7 : decode cL_weights 7 = .ok (.aload_n 2, 1) := by decide +kernel
theorem dL_weights_8 : decode cL_weights 8 = .ok (.invokestatic 9, 3) := by decide +kernel
theorem dL_weights_11 : decode cL_weights 11 = .ok (.if_icmp .ge 22, 3) := by decide +kernel
theorem dL_weights_14 : decode cL_weights 14 = .ok (.iload_n 3, 1) := by decide +kernel
theorem dL_weights_15 : decode cL_weights 15 = .ok (.aload_n 0, 1) := by decide +kernel
theorem dL_weights_16 : decode cL_weights 16 = .ok (.aload_n 1, 1) := by decide +kernel
theorem dL_weights_17 : decode cL_weights 17 = .ok (.aload_n 2, 1) := by decide +kernel
theorem dL_weights_18 : decode cL_weights 18 = .ok (.iload 4, 2) := by decide +kernel
theorem dL_weights_20 : decode cL_weights 20 = .ok (.iaload, 1) := by decide +kernel
theorem dL_weights_21 : decode cL_weights 21 = .ok (.iconst 0, 1) := by decide +kernel
theorem dL_weights_22 : decode cL_weights 22 = .ok (.invokestatic 15, 3) := by decide +kernel
theorem dL_weights_25 : decode cL_weights 25 = .ok (.iadd, 1) := by decide +kernel
theorem dL_weights_26 : decode cL_weights 26 = .ok (.istore_n 3, 1) := by decide +kernel
theorem dL_weights_27 : decode cL_weights 27 = .ok (.iinc 4 1, 3) := by decide +kernel
theorem dL_weights_30 : decode cL_weights 30 = .ok (.goto (-25), 3) := by decide +kernel
theorem dL_weights_33 : decode cL_weights 33 = .ok (.iload_n 3, 1) := by decide +kernel
theorem dL_weights_34 : decode cL_weights 34 = .ok (.ireturn, 1) := by decide +kernel
set_option maxRecDepth 20000 in
theorem ggL_first_L_many : GoodIn wsL_first wsL_many := goodIn_r _ [4] (by decide +kernel) (by decide +kernel)
set_option maxRecDepth 20000 in
theorem gL_first_L_many : GoodIn wsL_first (va_wsS RL 9 yL_many wsL_many) := goodIn_app (goodIn_of _ (by decide +kernel)) ggL_first_L_many
theorem dL_first_0 : decode cL_first 0 = .ok (.iconst (-1), 1) := by decide +kernel
theorem dL_first_1 : decode cL_first 1 = .ok (.istore 5, 2) := by decide +kernel
theorem dL_first_3 : decode cL_first 3 = .ok (.iconst 0, 1) := by decide +kernel
theorem dL_first_4 : decode cL_first 4 = .ok (.istore 6, 2) := by decide +kernel
theorem dL_first_6 : decode cL_first 6 = .ok (.iload 6, 2) := by decide +kernel
theorem dL_first_8 : decode cL_first 8 = .ok (.aload_n 1, 1) := by decide +kernel
theorem dL_first_9 : decode cL_first 9 = .ok (.invokestatic 9, 3) := by decide +kernel
theorem dL_first_12 : decode cL_first 12 = .ok (.if_icmp .ge 80, 3) := by decide +kernel
theorem dL_first_15 : decode cL_first 15 = .ok (.aload_n 0, 1) := by decide +kernel
theorem dL_first_16 : decode cL_first 16 = .ok (.iconst 1, 1) := by decide +kernel
theorem dL_first_17 : decode cL_first 17 = .ok (.iaload, 1) := by decide +kernel
theorem dL_first_18 : decode cL_first 18 = .ok (.iconst 2, 1) := by decide +kernel
theorem dL_first_19 : decode cL_first 19 = .ok (.if_icmp .ne 10, 3) := by decide +kernel
theorem dL_first_22 : decode cL_first 22 = .ok (.aload_n 1, 1) := by decide +kernel
theorem dL_first_23 : decode cL_first 23 = .ok (.iload 6, 2) := by decide +kernel
theorem dL_first_25 : decode cL_first 25 = .ok (.iaload, 1) := by decide +kernel
theorem dL_first_26 : decode cL_first 26 = .ok (.goto 7, 3) := by decide +kernel
theorem dL_first_29 : decode cL_first 29 = .ok (.aload_n 2, 1) := by decide +kernel
theorem dL_first_30 : decode cL_first 30 = .ok (.iload 6, 2) := by decide +kernel
theorem dL_first_32 : decode cL_first 32 = .ok (.iaload, 1) := by decide +kernel
theorem dL_first_33 : decode cL_first 33 = .ok (.istore 7, 2) := by decide +kernel
theorem dL_first_35 : decode cL_first 35 = .ok (.iload 5, 2) := by decide +kernel
theorem dL_first_37 : decode cL_first 37 = .ok (.ifCond .lt 21, 3) := by decide +kernel
theorem dL_first_40 : decode cL_first 40 = .ok (.aload_n 0, 1) := by decide +kernel
theorem dL_first_41 : decode cL_first 41 = .ok (.iconst 1, 1) := by decide +kernel
theorem dL_first_42 : decode cL_first 42 = .ok (.iaload, 1) := by decide +kernel
theorem dL_first_43 : decode cL_first 43 = .ok (.iconst 1, 1) := by decide +kernel
theorem dL_first_44 : decode cL_first 44 = .ok (.if_icmp .ne 18, 3) := by decide +kernel
theorem dL_first_47 : decode cL_first 47 = .ok (.aload_n 3, 1) := by decide +kernel
theorem dL_first_48 : decode cL_first 48 = .ok (.iload 7, 2) := by decide +kernel
theorem dL_first_50 : decode cL_first 50 = .ok (.iaload, 1) := by decide +kernel
theorem dL_first_51 : decode cL_first 51 = .ok (.aload_n 3, 1) := by decide +kernel
theorem dL_first_52 : decode cL_first 52 = .ok (.iload 5, 2) := by decide +kernel
theorem dL_first_54 : decode cL_first 54 = .ok (.iaload, 1) := by decide +kernel
theorem dL_first_55 : decode cL_first 55 = .ok (.if_icmp .ge 7, 3) := by decide +kernel
theorem dL_first_58 : decode cL_first 58 = .ok (.iconst 1, 1) := by decide +kernel
theorem dL_first_59 : decode cL_first 59 = .ok (.goto 4, 3) := by decide +kernel
theorem dL_first_62 : decode cL_first 62 = .ok (.iconst 0, 1) := by decide +kernel
theorem dL_first_63 : decode cL_first 63 = .ok (.istore 8, 2) := by decide +kernel
theorem dL_first_65 : decode cL_first 65 = .ok (.iload 7, 2) := by decide +kernel
theorem dL_first_67 : decode cL_first 67 = .ok (.iload 4, 2) := by decide +kernel
theorem dL_first_69 : decode cL_first 69 = .ok (.if_icmp .eq 13, 3) := by decide +kernel
theorem dL_first_72 : decode cL_first 72 = .ok (.iload 8, 2) := by decide +kernel
theorem dL_first_74 : decode cL_first 74 = .ok (.ifCond .eq 8, 3) := by decide +kernel
theorem dL_first_77 : decode cL_first 77 = .ok (.iload 7, 2) := by decide +kernel
theorem dL_first_79 : decode cL_first 79 = .ok (.goto 5, 3) := by decide +kernel
theorem dL_first_82 : decode cL_first 82 = .ok (.iload 5, 2) := by decide +kernel
theorem dL_first_84 : decode cL_first 84 = .ok (.istore 5, 2) := by decide +kernel
theorem dL_first_86 : decode cL_first 86 = .ok (.iinc 6 1, 3) := by decide +kernel
theorem dL_first_89 : decode cL_first 89 = .ok (.goto (-83), 3) := by decide +kernel
theorem dL_first_92 : decode cL_first 92 = .ok (.iload 5, 2) := by decide +kernel
theorem dL_first_94 : decode cL_first 94 = .ok (.ireturn, 1) := by decide +kernel
set_option maxRecDepth 20000 in
theorem ggL_room_L_first : GoodIn wsL_room wsL_first := goodIn_r _ [4, 5, 6, 3, 7] (by decide +kernel) (by decide +kernel)
set_option maxRecDepth 20000 in
theorem gL_room_L_first : GoodIn wsL_room (va_wsS RL 19 yL_first wsL_first) := goodIn_app (goodIn_of _ (by decide +kernel)) ggL_room_L_first
set_option maxRecDepth 20000 in
theorem ggL_room_L_weights : GoodIn wsL_room wsL_weights := goodIn_r _ [10, 5, 6, 3, 7, 11, 12, 13] (by decide +kernel) (by decide +kernel)
set_option maxRecDepth 20000 in
theorem gL_room_L_weights : GoodIn wsL_room (va_wsS RL 23 yL_weights wsL_weights) := goodIn_app (goodIn_of _ (by decide +kernel)) ggL_room_L_weights
set_option maxRecDepth 20000 in
theorem ggL_room_L_out : GoodIn wsL_room wsL_out := goodIn_r _ [16] (by decide +kernel) (by decide +kernel)
set_option maxRecDepth 20000 in
theorem gL_room_L_out : GoodIn wsL_room (va_wsS RL 27 yL_out wsL_out) := goodIn_app (goodIn_of _ (by decide +kernel)) ggL_room_L_out
theorem dL_room_0 : decode cL_room 0 = .ok (.iconst 0, 1) := by decide +kernel
theorem dL_room_1 : decode cL_room 1 = .ok (.istore 6, 2) := by decide +kernel
theorem dL_room_3 : decode cL_room 3 = .ok (.aload_n 0, 1) := by decide +kernel
theorem dL_room_4 : decode cL_room 4 = .ok (.aload_n 2, 1) := by decide +kernel
theorem dL_room_5 : decode cL_room 5 = .ok (.aload_n 3, 1) := by decide +kernel
theorem dL_room_6 : decode cL_room 6 = .ok (.aload 4, 2) := by decide +kernel
theorem dL_room_8 : decode cL_room 8 = .ok (.iload 5, 2) := by decide +kernel
theorem dL_room_10 : decode cL_room 10 = .ok (.invokestatic 19, 3) := by decide +kernel
theorem dL_room_13 : decode cL_room 13 = .ok (.istore 7, 2) := by decide +kernel
theorem dL_room_15 : decode cL_room 15 = .ok (.iload 7, 2) := by decide +kernel
theorem dL_room_17 : decode cL_room 17 = .ok (.ifCond .lt 45, 3) := by decide +kernel
theorem dL_room_20 : decode cL_room 20 = .ok (.aload_n 0, 1) := by decide +kernel
theorem dL_room_21 : decode cL_room 21 = .ok (.aload_n 1, 1) := by decide +kernel
theorem dL_room_22 : decode cL_room 22 = .ok (.aload_n 2, 1) := by decide +kernel
theorem dL_room_23 : decode cL_room 23 = .ok (.invokestatic 23, 3) := by decide +kernel
theorem dL_room_26 : decode cL_room 26 = .ok (.aload_n 0, 1) := by decide +kernel
theorem dL_room_27 : decode cL_room 27 = .ok (.iconst 0, 1) := by decide +kernel
theorem dL_room_28 : decode cL_room 28 = .ok (.iaload, 1) := by decide +kernel
theorem dL_room_29 : decode cL_room 29 = .ok (.if_icmp .le 33, 3) := by decide +kernel
theorem dL_room_32 : decode cL_room 32 = .ok (.aload_n 2, 1) := by decide +kernel
theorem dL_room_33 : decode cL_room 33 = .ok (.iload 7, 2) := by decide +kernel
theorem dL_room_35 : decode cL_room 35 = .ok (.invokestatic 27, 3) := by decide +kernel
theorem dL_room_38 : decode cL_room 38 = .ok (.aload_n 3, 1) := by decide +kernel
theorem dL_room_39 : decode cL_room 39 = .ok (.iload 7, 2) := by decide +kernel
theorem dL_room_41 : decode cL_room 41 = .ok (.invokestatic 27, 3) := by decide +kernel
theorem dL_room_44 : decode cL_room 44 = .ok (.iinc 6 1, 3) := by decide +kernel
theorem dL_room_47 : decode cL_room 47 = .ok (.aload_n 0, 1) := by decide +kernel
theorem dL_room_48 : decode cL_room 48 = .ok (.aload_n 2, 1) := by decide +kernel
theorem dL_room_49 : decode cL_room 49 = .ok (.aload_n 3, 1) := by decide +kernel
theorem dL_room_50 : decode cL_room 50 = .ok (.aload 4, 2) := by decide +kernel
theorem dL_room_52 : decode cL_room 52 = .ok (.iload 5, 2) := by decide +kernel
theorem dL_room_54 : decode cL_room 54 = .ok (.invokestatic 19, 3) := by decide +kernel
theorem dL_room_57 : decode cL_room 57 = .ok (.istore 7, 2) := by decide +kernel
theorem dL_room_59 : decode cL_room 59 = .ok (.goto (-44), 3) := by decide +kernel
theorem dL_room_62 : decode cL_room 62 = .ok (.aload_n 0, 1) := by decide +kernel
theorem dL_room_63 : decode cL_room 63 = .ok (.bipush 12, 2) := by decide +kernel
theorem dL_room_65 : decode cL_room 65 = .ok (.dup2, 1) := by decide +kernel
theorem dL_room_66 : decode cL_room 66 = .ok (.iaload, 1) := by decide +kernel
theorem dL_room_67 : decode cL_room 67 = .ok (.iload 6, 2) := by decide +kernel
theorem dL_room_69 : decode cL_room 69 = .ok (.iadd, 1) := by decide +kernel
theorem dL_room_70 : decode cL_room 70 = .ok (.iastore, 1) := by decide +kernel
theorem dL_room_71 : decode cL_room 71 = .ok (.iload 6, 2) := by decide +kernel
theorem dL_room_73 : decode cL_room 73 = .ok (.ireturn, 1) := by decide +kernel
set_option maxRecDepth 20000 in
theorem ggL_goes_L_many : GoodIn wsL_goes wsL_many := goodIn_r _ [4] (by decide +kernel) (by decide +kernel)
set_option maxRecDepth 20000 in
theorem gL_goes_L_many : GoodIn wsL_goes (va_wsS RL 9 yL_many wsL_many) := goodIn_app (goodIn_of _ (by decide +kernel)) ggL_goes_L_many
set_option maxRecDepth 20000 in
theorem ggL_goes_L_out : GoodIn wsL_goes wsL_out := goodIn_r _ [7] (by decide +kernel) (by decide +kernel)
set_option maxRecDepth 20000 in
theorem gL_goes_L_out : GoodIn wsL_goes (va_wsS RL 27 yL_out wsL_out) := goodIn_app (goodIn_of _ (by decide +kernel)) ggL_goes_L_out
theorem dL_goes_0 : decode cL_goes 0 = .ok (.aload_n 1, 1) := by decide +kernel
theorem dL_goes_1 : decode cL_goes 1 = .ok (.invokestatic 9, 3) := by decide +kernel
theorem dL_goes_4 : decode cL_goes 4 = .ok (.istore 4, 2) := by decide +kernel
theorem dL_goes_6 : decode cL_goes 6 = .ok (.iload_n 3, 1) := by decide +kernel
theorem dL_goes_7 : decode cL_goes 7 = .ok (.ifCond .ge 32, 3) := by decide +kernel
theorem dL_goes_10 : decode cL_goes 10 = .ok (.iconst 0, 1) := by decide +kernel
theorem dL_goes_11 : decode cL_goes 11 = .ok (.istore 5, 2) := by decide +kernel
theorem dL_goes_13 : decode cL_goes 13 = .ok (.iload 5, 2) := by decide +kernel
theorem dL_goes_15 : decode cL_goes 15 = .ok (.bipush 10, 2) := by decide +kernel
theorem dL_goes_17 : decode cL_goes 17 = .ok (.if_icmp .ge 19, 3) := by decide +kernel
theorem dL_goes_20 : decode cL_goes 20 = .ok (.aload_n 1, 1) := by decide +kernel
theorem dL_goes_21 : decode cL_goes 21 = .ok (.iload 5, 2) := by decide +kernel
theorem dL_goes_23 : decode cL_goes 23 = .ok (.iconst (-1), 1) := by decide +kernel
theorem dL_goes_24 : decode cL_goes 24 = .ok (.iastore, 1) := by decide +kernel
theorem dL_goes_25 : decode cL_goes 25 = .ok (.aload_n 2, 1) := by decide +kernel
theorem dL_goes_26 : decode cL_goes 26 = .ok (.iload 5, 2) := by decide +kernel
theorem dL_goes_28 : decode cL_goes 28 = .ok (.iconst (-1), 1) := by decide +kernel
theorem dL_goes_29 : decode cL_goes 29 = .ok (.iastore, 1) := by decide +kernel
theorem dL_goes_30 : decode cL_goes 30 = .ok (.iinc 5 1, 3) := by decide +kernel
theorem dL_goes_33 : decode cL_goes 33 = .ok (.goto (-20), 3) := by decide +kernel
theorem dL_goes_36 : decode cL_goes 36 = .ok (.goto 13, 3) := by decide +kernel
theorem dL_goes_39 : decode cL_goes 39 = .ok (.aload_n 1, 1) := by decide +kernel
theorem dL_goes_40 : decode cL_goes 40 = .ok (.iload_n 3, 1) := by decide +kernel
theorem dL_goes_41 : decode cL_goes 41 = .ok (.invokestatic 27, 3) := by decide +kernel
theorem dL_goes_44 : decode cL_goes 44 = .ok (.aload_n 2, 1) := by decide +kernel
theorem dL_goes_45 : decode cL_goes 45 = .ok (.iload_n 3, 1) := by decide +kernel
theorem dL_goes_46 : decode cL_goes 46 = .ok (.invokestatic 27, 3) := by decide +kernel
theorem dL_goes_49 : decode cL_goes 49 = .ok (.aload_n 0, 1) := by decide +kernel
theorem dL_goes_50 : decode cL_goes 50 = .ok (.bipush 13, 2) := by decide +kernel
theorem dL_goes_52 : decode cL_goes 52 = .ok (.dup2, 1) := by decide +kernel
theorem dL_goes_53 : decode cL_goes 53 = .ok (.iaload, 1) := by decide +kernel
theorem dL_goes_54 : decode cL_goes 54 = .ok (.iload 4, 2) := by decide +kernel
theorem dL_goes_56 : decode cL_goes 56 = .ok (.aload_n 1, 1) := by decide +kernel
theorem dL_goes_57 : decode cL_goes 57 = .ok (.invokestatic 9, 3) := by decide +kernel
theorem dL_goes_60 : decode cL_goes 60 = .ok (.isub, 1) := by decide +kernel
theorem dL_goes_61 : decode cL_goes 61 = .ok (.iadd, 1) := by decide +kernel
theorem dL_goes_62 : decode cL_goes 62 = .ok (.iastore, 1) := by decide +kernel
theorem dL_goes_63 : decode cL_goes 63 = .ok (.iload 4, 2) := by decide +kernel
theorem dL_goes_65 : decode cL_goes 65 = .ok (.aload_n 1, 1) := by decide +kernel
theorem dL_goes_66 : decode cL_goes 66 = .ok (.invokestatic 9, 3) := by decide +kernel
theorem dL_goes_69 : decode cL_goes 69 = .ok (.isub, 1) := by decide +kernel
theorem dL_goes_70 : decode cL_goes 70 = .ok (.ireturn, 1) := by decide +kernel
set_option maxRecDepth 20000 in
theorem ggL_kept_L_has : GoodIn wsL_kept wsL_has := goodIn_r _ [4] (by decide +kernel) (by decide +kernel)
set_option maxRecDepth 20000 in
theorem gL_kept_L_has : GoodIn wsL_kept (va_wsS RL 31 yL_has wsL_has) := goodIn_app (goodIn_of _ (by decide +kernel)) ggL_kept_L_has
set_option maxRecDepth 20000 in
theorem ggL_kept_L_goes : GoodIn wsL_kept wsL_goes := goodIn_r _ [7, 8, 9, 3, 10, 11, 12, 13] (by decide +kernel) (by decide +kernel)
set_option maxRecDepth 20000 in
theorem gL_kept_L_goes : GoodIn wsL_kept (va_wsS RL 35 yL_goes wsL_goes) := goodIn_app (goodIn_of _ (by decide +kernel)) ggL_kept_L_goes
theorem dL_kept_0 : decode cL_kept 0 = .ok (.aload_n 0, 1) := by decide +kernel
theorem dL_kept_1 : decode cL_kept 1 = .ok (.iconst 2, 1) := by decide +kernel
theorem dL_kept_2 : decode cL_kept 2 = .ok (.iaload, 1) := by decide +kernel
theorem dL_kept_3 : decode cL_kept 3 = .ok (.iconst 2, 1) := by decide +kernel
theorem dL_kept_4 : decode cL_kept 4 = .ok (.if_icmp .ne 45, 3) := by decide +kernel
theorem dL_kept_7 : decode cL_kept 7 = .ok (.aload_n 0, 1) := by decide +kernel
theorem dL_kept_8 : decode cL_kept 8 = .ok (.bipush 15, 2) := by decide +kernel
theorem dL_kept_10 : decode cL_kept 10 = .ok (.dup2, 1) := by decide +kernel
theorem dL_kept_11 : decode cL_kept 11 = .ok (.iaload, 1) := by decide +kernel
theorem dL_kept_12 : decode cL_kept 12 = .ok (.aload_n 1, 1) := by decide +kernel
theorem dL_kept_13 : decode cL_kept 13 = .ok (.iload_n 3, 1) := by decide +kernel
theorem dL_kept_14 : decode cL_kept 14 = .ok (.invokestatic 31, 3) := by decide +kernel
theorem dL_kept_17 : decode cL_kept 17 = .ok (.ifCond .eq 7, 3) := by decide +kernel
theorem dL_kept_20 : decode cL_kept 20 = .ok (.iconst 1, 1) := by decide +kernel
theorem dL_kept_21 : decode cL_kept 21 = .ok (.goto 4, 3) := by decide +kernel
theorem dL_kept_24 : decode cL_kept 24 = .ok (.iconst 0, 1) := by decide +kernel
theorem dL_kept_25 : decode cL_kept 25 = .ok (.iload_n 3, 1) := by decide +kernel
theorem dL_kept_26 : decode cL_kept 26 = .ok (.iload 4, 2) := by decide +kernel
theorem dL_kept_28 : decode cL_kept 28 = .ok (.if_icmp .eq 16, 3) := by decide +kernel
theorem dL_kept_31 : decode cL_kept 31 = .ok (.aload_n 1, 1) := by decide +kernel
theorem dL_kept_32 : decode cL_kept 32 = .ok (.iload 4, 2) := by decide +kernel
theorem dL_kept_34 : decode cL_kept 34 = .ok (.invokestatic 31, 3) := by decide +kernel
theorem dL_kept_37 : decode cL_kept 37 = .ok (.ifCond .eq 7, 3) := by decide +kernel
theorem dL_kept_40 : decode cL_kept 40 = .ok (.iconst 1, 1) := by decide +kernel
theorem dL_kept_41 : decode cL_kept 41 = .ok (.goto 4, 3) := by decide +kernel
theorem dL_kept_44 : decode cL_kept 44 = .ok (.iconst 0, 1) := by decide +kernel
theorem dL_kept_45 : decode cL_kept 45 = .ok (.iadd, 1) := by decide +kernel
theorem dL_kept_46 : decode cL_kept 46 = .ok (.iadd, 1) := by decide +kernel
theorem dL_kept_47 : decode cL_kept 47 = .ok (.iastore, 1) := by decide +kernel
theorem dL_kept_48 : decode cL_kept 48 = .ok (.return_, 1) := by decide +kernel
theorem dL_kept_49 : decode cL_kept 49 = .ok (.aload_n 0, 1) := by decide +kernel
theorem dL_kept_50 : decode cL_kept 50 = .ok (.aload_n 1, 1) := by decide +kernel
theorem dL_kept_51 : decode cL_kept 51 = .ok (.aload_n 2, 1) := by decide +kernel
theorem dL_kept_52 : decode cL_kept 52 = .ok (.aload_n 0, 1) := by decide +kernel
theorem dL_kept_53 : decode cL_kept 53 = .ok (.iconst 2, 1) := by decide +kernel
theorem dL_kept_54 : decode cL_kept 54 = .ok (.iaload, 1) := by decide +kernel
theorem dL_kept_55 : decode cL_kept 55 = .ok (.iconst 1, 1) := by decide +kernel
theorem dL_kept_56 : decode cL_kept 56 = .ok (.if_icmp .ne 7, 3) := by decide +kernel
theorem dL_kept_59 : decode cL_kept 59 = .ok (.iconst (-1), 1) := by decide +kernel
theorem dL_kept_60 : decode cL_kept 60 = .ok (.goto 4, 3) := by decide +kernel
theorem dL_kept_63 : decode cL_kept 63 = .ok (.iload_n 3, 1) := by decide +kernel
theorem dL_kept_64 : decode cL_kept 64 = .ok (.invokestatic 35, 3) := by decide +kernel
theorem dL_kept_67 : decode cL_kept 67 = .ok (.istore 5, 2) := by decide +kernel
theorem dL_kept_69 : decode cL_kept 69 = .ok (.aload_n 0, 1) := by decide +kernel
theorem dL_kept_70 : decode cL_kept 70 = .ok (.iconst 2, 1) := by decide +kernel
theorem dL_kept_71 : decode cL_kept 71 = .ok (.iaload, 1) := by decide +kernel
theorem dL_kept_72 : decode cL_kept 72 = .ok (.ifCond .ne 14, 3) := by decide +kernel
theorem dL_kept_75 : decode cL_kept 75 = .ok (.aload_n 0, 1) := by decide +kernel
theorem dL_kept_76 : decode cL_kept 76 = .ok (.aload_n 1, 1) := by decide +kernel
theorem dL_kept_77 : decode cL_kept 77 = .ok (.aload_n 2, 1) := by decide +kernel
theorem dL_kept_78 : decode cL_kept 78 = .ok (.iload 4, 2) := by decide +kernel
theorem dL_kept_80 : decode cL_kept 80 = .ok (.invokestatic 35, 3) := by decide +kernel
theorem dL_kept_83 : decode cL_kept 83 = .ok (.goto 5, 3) := by decide +kernel
theorem dL_kept_86 : decode cL_kept 86 = .ok (.iload 5, 2) := by decide +kernel
theorem dL_kept_88 : decode cL_kept 88 = .ok (.istore 5, 2) := by decide +kernel
theorem dL_kept_90 : decode cL_kept 90 = .ok (.return_, 1) := by decide +kernel
set_option maxRecDepth 20000 in
theorem ggL_look_L_has : GoodIn wsL_look wsL_has := goodIn_r _ [4] (by decide +kernel) (by decide +kernel)
set_option maxRecDepth 20000 in
theorem gL_look_L_has : GoodIn wsL_look (va_wsS RL 31 yL_has wsL_has) := goodIn_app (goodIn_of _ (by decide +kernel)) ggL_look_L_has
set_option maxRecDepth 20000 in
theorem ggL_look_L_out : GoodIn wsL_look wsL_out := goodIn_r _ [7] (by decide +kernel) (by decide +kernel)
set_option maxRecDepth 20000 in
theorem gL_look_L_out : GoodIn wsL_look (va_wsS RL 27 yL_out wsL_out) := goodIn_app (goodIn_of _ (by decide +kernel)) ggL_look_L_out
set_option maxRecDepth 20000 in
theorem ggL_look_L_many : GoodIn wsL_look wsL_many := goodIn_r _ [10] (by decide +kernel) (by decide +kernel)
set_option maxRecDepth 20000 in
theorem gL_look_L_many : GoodIn wsL_look (va_wsS RL 9 yL_many wsL_many) := goodIn_app (goodIn_of _ (by decide +kernel)) ggL_look_L_many
set_option maxRecDepth 20000 in
theorem ggL_look_L_weight : GoodIn wsL_look wsL_weight := goodIn_r _ [13] (by decide +kernel) (by decide +kernel)
set_option maxRecDepth 20000 in
theorem gL_look_L_weight : GoodIn wsL_look (va_wsS RL 15 yL_weight wsL_weight) := goodIn_app (goodIn_of _ (by decide +kernel)) ggL_look_L_weight
set_option maxRecDepth 20000 in
theorem ggL_look_L_room : GoodIn wsL_look wsL_room := goodIn_r _ [16, 17, 18, 3, 19, 8, 9, 10, 20, 21, 22, 11, 12, 13, 5, 6, 7] (by decide +kernel) (by decide +kernel)
set_option maxRecDepth 20000 in
theorem gL_look_L_room : GoodIn wsL_look (va_wsS RL 39 yL_room wsL_room) := goodIn_app (goodIn_of _ (by decide +kernel)) ggL_look_L_room
theorem dL_look_0 : decode cL_look 0 = .ok (.aload_n 2, 1) := by decide +kernel
theorem dL_look_1 : decode cL_look 1 = .ok (.iload 5, 2) := by decide +kernel
theorem dL_look_3 : decode cL_look 3 = .ok (.invokestatic 31, 3) := by decide +kernel
theorem dL_look_6 : decode cL_look 6 = .ok (.ifCond .eq 36, 3) := by decide +kernel
theorem dL_look_9 : decode cL_look 9 = .ok (.aload_n 3, 1) := by decide +kernel
theorem dL_look_10 : decode cL_look 10 = .ok (.iload 5, 2) := by decide +kernel
theorem dL_look_12 : decode cL_look 12 = .ok (.invokestatic 27, 3) := by decide +kernel
theorem dL_look_15 : decode cL_look 15 = .ok (.aload_n 3, 1) := by decide +kernel
theorem dL_look_16 : decode cL_look 16 = .ok (.aload_n 3, 1) := by decide +kernel
theorem dL_look_17 : decode cL_look 17 = .ok (.invokestatic 9, 3) := by decide +kernel
theorem dL_look_20 : decode cL_look 20 = .ok (.iload 5, 2) := by decide +kernel
theorem dL_look_22 : decode cL_look 22 = .ok (.iastore, 1) := by decide +kernel
theorem dL_look_23 : decode cL_look 23 = .ok (.aload 4, 2) := by decide +kernel
theorem dL_look_25 : decode cL_look 25 = .ok (.iload 5, 2) := by decide +kernel
theorem dL_look_27 : decode cL_look 27 = .ok (.dup2, 1) := by decide +kernel
theorem dL_look_28 : decode cL_look 28 = .ok (.iaload, 1) := by decide +kernel
theorem dL_look_29 : decode cL_look 29 = .ok (.iconst 1, 1) := by decide +kernel
theorem dL_look_30 : decode cL_look 30 = .ok (.iadd, 1) := by decide +kernel
theorem dL_look_31 : decode cL_look 31 = .ok (.iastore, 1) := by decide +kernel
theorem dL_look_32 : decode cL_look 32 = .ok (.aload_n 0, 1) := by decide +kernel
theorem dL_look_33 : decode cL_look 33 = .ok (.bipush 9, 2) := by decide +kernel
theorem dL_look_35 : decode cL_look 35 = .ok (.dup2, 1) := by decide +kernel
theorem dL_look_36 : decode cL_look 36 = .ok (.iaload, 1) := by decide +kernel
theorem dL_look_37 : decode cL_look 37 = .ok (.iconst 1, 1) := by decide +kernel
theorem dL_look_38 : decode cL_look 38 = .ok (.iadd, 1) := by decide +kernel
theorem dL_look_39 : decode cL_look 39 = .ok (.iastore, 1) := by decide +kernel
theorem dL_look_40 : decode cL_look 40 = .ok (.iconst 1, 1) := by decide +kernel
theorem dL_look_41 : decode cL_look 41 = .ok (.ireturn, 1) := by decide +kernel
theorem dL_look_42 : decode cL_look 42 = .ok (.aload_n 0, 1) := by decide +kernel
theorem dL_look_43 : decode cL_look 43 = .ok (.bipush 10, 2) := by decide +kernel
theorem dL_look_45 : decode cL_look 45 = .ok (.dup2, 1) := by decide +kernel
theorem dL_look_46 : decode cL_look 46 = .ok (.iaload, 1) := by decide +kernel
theorem dL_look_47 : decode cL_look 47 = .ok (.iconst 1, 1) := by decide +kernel
theorem dL_look_48 : decode cL_look 48 = .ok (.iadd, 1) := by decide +kernel
theorem dL_look_49 : decode cL_look 49 = .ok (.iastore, 1) := by decide +kernel
theorem dL_look_50 : decode cL_look 50 = .ok (.aload_n 0, 1) := by decide +kernel
theorem dL_look_51 : decode cL_look 51 = .ok (.aload_n 1, 1) := by decide +kernel
theorem dL_look_52 : decode cL_look 52 = .ok (.iload 5, 2) := by decide +kernel
theorem dL_look_54 : decode cL_look 54 = .ok (.iconst 0, 1) := by decide +kernel
theorem dL_look_55 : decode cL_look 55 = .ok (.invokestatic 15, 3) := by decide +kernel
theorem dL_look_58 : decode cL_look 58 = .ok (.aload_n 0, 1) := by decide +kernel
theorem dL_look_59 : decode cL_look 59 = .ok (.iconst 0, 1) := by decide +kernel
theorem dL_look_60 : decode cL_look 60 = .ok (.iaload, 1) := by decide +kernel
theorem dL_look_61 : decode cL_look 61 = .ok (.if_icmp .le 17, 3) := by decide +kernel
theorem dL_look_64 : decode cL_look 64 = .ok (.aload_n 0, 1) := by decide +kernel
theorem dL_look_65 : decode cL_look 65 = .ok (.bipush 14, 2) := by decide +kernel
theorem dL_look_67 : decode cL_look 67 = .ok (.dup2, 1) := by decide +kernel
theorem dL_look_68 : decode cL_look 68 = .ok (.iaload, 1) := by decide +kernel
theorem dL_look_69 : decode cL_look 69 = .ok (.iconst 1, 1) := by decide +kernel
theorem dL_look_70 : decode cL_look 70 = .ok (.iadd, 1) := by decide +kernel
theorem dL_look_71 : decode cL_look 71 = .ok (.iastore, 1) := by decide +kernel
theorem dL_look_72 : decode cL_look 72 = .ok (.iconst 2, 1) := by decide +kernel
theorem dL_look_73 : decode cL_look 73 = .ok (.aload_n 0, 1) := by decide +kernel
theorem dL_look_74 : decode cL_look 74 = .ok (.iconst 5, 1) := by decide +kernel
theorem dL_look_75 : decode cL_look 75 = .ok (.iaload, 1) := by decide +kernel
theorem dL_look_76 : decode cL_look 76 = .ok (.iadd, 1) := by decide +kernel
theorem dL_look_77 : decode cL_look 77 = .ok (.ireturn, 1) := by decide +kernel
theorem dL_look_78 : decode cL_look 78 = .ok (.aload_n 2, 1) := by decide +kernel
theorem dL_look_79 : decode cL_look 79 = .ok (.aload_n 2, 1) := by decide +kernel
theorem dL_look_80 : decode cL_look 80 = .ok (.invokestatic 9, 3) := by decide +kernel
theorem dL_look_83 : decode cL_look 83 = .ok (.iload 5, 2) := by decide +kernel
theorem dL_look_85 : decode cL_look 85 = .ok (.iastore, 1) := by decide +kernel
theorem dL_look_86 : decode cL_look 86 = .ok (.aload_n 3, 1) := by decide +kernel
theorem dL_look_87 : decode cL_look 87 = .ok (.aload_n 3, 1) := by decide +kernel
theorem dL_look_88 : decode cL_look 88 = .ok (.invokestatic 9, 3) := by decide +kernel
theorem dL_look_91 : decode cL_look 91 = .ok (.iload 5, 2) := by decide +kernel
theorem dL_look_93 : decode cL_look 93 = .ok (.iastore, 1) := by decide +kernel
theorem dL_look_94 : decode cL_look 94 = .ok (.aload 4, 2) := by decide +kernel
theorem dL_look_96 : decode cL_look 96 = .ok (.iload 5, 2) := by decide +kernel
theorem dL_look_98 : decode cL_look 98 = .ok (.iconst 1, 1) := by decide +kernel
theorem dL_look_99 : decode cL_look 99 = .ok (.iastore, 1) := by decide +kernel
theorem dL_look_100 : decode cL_look 100 = .ok (.aload_n 0, 1) := by decide +kernel
theorem dL_look_101 : decode cL_look 101 = .ok (.aload_n 1, 1) := by decide +kernel
theorem dL_look_102 : decode cL_look 102 = .ok (.aload_n 2, 1) := by decide +kernel
theorem dL_look_103 : decode cL_look 103 = .ok (.aload_n 3, 1) := by decide +kernel
theorem dL_look_104 : decode cL_look 104 = .ok (.aload 4, 2) := by decide +kernel
theorem dL_look_106 : decode cL_look 106 = .ok (.iload 5, 2) := by decide +kernel
theorem dL_look_108 : decode cL_look 108 = .ok (.invokestatic 39, 3) := by decide +kernel
theorem dL_look_111 : decode cL_look 111 = .ok (.istore 6, 2) := by decide +kernel
theorem dL_look_113 : decode cL_look 113 = .ok (.iconst 2, 1) := by decide +kernel
theorem dL_look_114 : decode cL_look 114 = .ok (.aload_n 0, 1) := by decide +kernel
theorem dL_look_115 : decode cL_look 115 = .ok (.iconst 5, 1) := by decide +kernel
theorem dL_look_116 : decode cL_look 116 = .ok (.iaload, 1) := by decide +kernel
theorem dL_look_117 : decode cL_look 117 = .ok (.iadd, 1) := by decide +kernel
theorem dL_look_118 : decode cL_look 118 = .ok (.iload 6, 2) := by decide +kernel
theorem dL_look_120 : decode cL_look 120 = .ok (.ifCond .ge 7, 3) := by decide +kernel
theorem dL_look_123 : decode cL_look 123 = .ok (.iconst 1, 1) := by decide +kernel
theorem dL_look_124 : decode cL_look 124 = .ok (.goto 4, 3) := by decide +kernel
theorem dL_look_127 : decode cL_look 127 = .ok (.iconst 0, 1) := by decide +kernel
theorem dL_look_128 : decode cL_look 128 = .ok (.iadd, 1) := by decide +kernel
theorem dL_look_129 : decode cL_look 129 = .ok (.ireturn, 1) := by decide +kernel
set_option maxRecDepth 20000 in
theorem ggL_steps_L_look : GoodIn wsL_steps wsL_look := goodIn_r _ [4, 5, 6, 3, 7, 8, 9, 10, 11, 12, 13, 14, 15, 16, 17, 18, 19, 20, 21, 22, 23, 24, 25] (by decide +kernel) (by decide +kernel)
set_option maxRecDepth 20000 in
theorem gL_steps_L_look : GoodIn wsL_steps (va_wsS RL 43 yL_look wsL_look) := goodIn_app (goodIn_of _ (by decide +kernel)) ggL_steps_L_look
set_option maxRecDepth 20000 in
theorem ggL_steps_L_weight : GoodIn wsL_steps wsL_weight := goodIn_r _ [16] (by decide +kernel) (by decide +kernel)
set_option maxRecDepth 20000 in
theorem gL_steps_L_weight : GoodIn wsL_steps (va_wsS RL 15 yL_weight wsL_weight) := goodIn_app (goodIn_of _ (by decide +kernel)) ggL_steps_L_weight
theorem dL_steps_0 : decode cL_steps 0 = .ok (.iconst 0, 1) := by decide +kernel
theorem dL_steps_1 : decode cL_steps 1 = .ok (.istore 7, 2) := by decide +kernel
theorem dL_steps_3 : decode cL_steps 3 = .ok (.iconst 0, 1) := by decide +kernel
theorem dL_steps_4 : decode cL_steps 4 = .ok (.istore 8, 2) := by decide +kernel
theorem dL_steps_6 : decode cL_steps 6 = .ok (.iload 8, 2) := by decide +kernel
theorem dL_steps_8 : decode cL_steps 8 = .ok (.iload 6, 2) := by decide +kernel
theorem dL_steps_10 : decode cL_steps 10 = .ok (.if_icmp .ge 81, 3) := by decide +kernel
theorem dL_steps_13 : decode cL_steps 13 = .ok (.aload_n 0, 1) := by decide +kernel
theorem dL_steps_14 : decode cL_steps 14 = .ok (.bipush 7, 2) := by decide +kernel
theorem dL_steps_16 : decode cL_steps 16 = .ok (.iaload, 1) := by decide +kernel
theorem dL_steps_17 : decode cL_steps 17 = .ok (.aload_n 0, 1) := by decide +kernel
theorem dL_steps_18 : decode cL_steps 18 = .ok (.bipush 6, 2) := by decide +kernel
theorem dL_steps_20 : decode cL_steps 20 = .ok (.iaload, 1) := by decide +kernel
theorem dL_steps_21 : decode cL_steps 21 = .ok (.if_icmp .ge 70, 3) := by decide +kernel
theorem dL_steps_24 : decode cL_steps 24 = .ok (.aload_n 2, 1) := by decide +kernel
theorem dL_steps_25 : decode cL_steps 25 = .ok (.iconst 2, 1) := by decide +kernel
theorem dL_steps_26 : decode cL_steps 26 = .ok (.aload_n 0, 1) := by decide +kernel
theorem dL_steps_27 : decode cL_steps 27 = .ok (.bipush 7, 2) := by decide +kernel
theorem dL_steps_29 : decode cL_steps 29 = .ok (.iaload, 1) := by decide +kernel
theorem dL_steps_30 : decode cL_steps 30 = .ok (.imul, 1) := by decide +kernel
theorem dL_steps_31 : decode cL_steps 31 = .ok (.iaload, 1) := by decide +kernel
theorem dL_steps_32 : decode cL_steps 32 = .ok (.istore 9, 2) := by decide +kernel
theorem dL_steps_34 : decode cL_steps 34 = .ok (.iload 7, 2) := by decide +kernel
theorem dL_steps_36 : decode cL_steps 36 = .ok (.aload_n 0, 1) := by decide +kernel
theorem dL_steps_37 : decode cL_steps 37 = .ok (.aload_n 1, 1) := by decide +kernel
theorem dL_steps_38 : decode cL_steps 38 = .ok (.aload_n 3, 1) := by decide +kernel
theorem dL_steps_39 : decode cL_steps 39 = .ok (.aload 4, 2) := by decide +kernel
theorem dL_steps_41 : decode cL_steps 41 = .ok (.aload 5, 2) := by decide +kernel
theorem dL_steps_43 : decode cL_steps 43 = .ok (.iload 9, 2) := by decide +kernel
theorem dL_steps_45 : decode cL_steps 45 = .ok (.invokestatic 43, 3) := by decide +kernel
theorem dL_steps_48 : decode cL_steps 48 = .ok (.iadd, 1) := by decide +kernel
theorem dL_steps_49 : decode cL_steps 49 = .ok (.istore 7, 2) := by decide +kernel
theorem dL_steps_51 : decode cL_steps 51 = .ok (.aload_n 0, 1) := by decide +kernel
theorem dL_steps_52 : decode cL_steps 52 = .ok (.bipush 8, 2) := by decide +kernel
theorem dL_steps_54 : decode cL_steps 54 = .ok (.dup2, 1) := by decide +kernel
theorem dL_steps_55 : decode cL_steps 55 = .ok (.iaload, 1) := by decide +kernel
theorem dL_steps_56 : decode cL_steps 56 = .ok (.aload_n 2, 1) := by decide +kernel
theorem dL_steps_57 : decode cL_steps 57 = .ok (.iconst 2, 1) := by decide +kernel
theorem dL_steps_58 : decode cL_steps 58 = .ok (.aload_n 0, 1) := by decide +kernel
theorem dL_steps_59 : decode cL_steps 59 = .ok (.bipush 7, 2) := by decide +kernel
theorem dL_steps_61 : decode cL_steps 61 = .ok (.iaload, 1) := by decide +kernel
theorem dL_steps_62 : decode cL_steps 62 = .ok (.imul, 1) := by decide +kernel
theorem dL_steps_63 : decode cL_steps 63 = .ok (.iconst 1, 1) := by decide +kernel
theorem dL_steps_64 : decode cL_steps 64 = .ok (.iadd, 1) := by decide +kernel
theorem dL_steps_65 : decode cL_steps 65 = .ok (.iaload, 1) := by decide +kernel
theorem dL_steps_66 : decode cL_steps 66 = .ok (.aload_n 0, 1) := by decide +kernel
theorem dL_steps_67 : decode cL_steps 67 = .ok (.aload_n 1, 1) := by decide +kernel
theorem dL_steps_68 : decode cL_steps 68 = .ok (.iload 9, 2) := by decide +kernel
theorem dL_steps_70 : decode cL_steps 70 = .ok (.iconst 1, 1) := by decide +kernel
theorem dL_steps_71 : decode cL_steps 71 = .ok (.invokestatic 15, 3) := by decide +kernel
theorem dL_steps_74 : decode cL_steps 74 = .ok (.imul, 1) := by decide +kernel
theorem dL_steps_75 : decode cL_steps 75 = .ok (.iadd, 1) := by decide +kernel
theorem dL_steps_76 : decode cL_steps 76 = .ok (.iastore, 1) := by decide +kernel
theorem dL_steps_77 : decode cL_steps 77 = .ok (.aload_n 0, 1) := by decide +kernel
theorem dL_steps_78 : decode cL_steps 78 = .ok (.bipush 7, 2) := by decide +kernel
theorem dL_steps_80 : decode cL_steps 80 = .ok (.dup2, 1) := by decide +kernel
theorem dL_steps_81 : decode cL_steps 81 = .ok (.iaload, 1) := by decide +kernel
theorem dL_steps_82 : decode cL_steps 82 = .ok (.iconst 1, 1) := by decide +kernel
theorem dL_steps_83 : decode cL_steps 83 = .ok (.iadd, 1) := by decide +kernel
theorem dL_steps_84 : decode cL_steps 84 = .ok (.iastore, 1) := by decide +kernel
theorem dL_steps_85 : decode cL_steps 85 = .ok (.iinc 8 1, 3) := by decide +kernel
theorem dL_steps_88 : decode cL_steps 88 = .ok (.goto (-82), 3) := by decide +kernel
theorem dL_steps_91 : decode cL_steps 91 = .ok (.aload_n 0, 1) := by decide +kernel
theorem dL_steps_92 : decode cL_steps 92 = .ok (.bipush 11, 2) := by decide +kernel
theorem dL_steps_94 : decode cL_steps 94 = .ok (.dup2, 1) := by decide +kernel
theorem dL_steps_95 : decode cL_steps 95 = .ok (.iaload, 1) := by decide +kernel
theorem dL_steps_96 : decode cL_steps 96 = .ok (.iload 7, 2) := by decide +kernel
theorem dL_steps_98 : decode cL_steps 98 = .ok (.iadd, 1) := by decide +kernel
theorem dL_steps_99 : decode cL_steps 99 = .ok (.iastore, 1) := by decide +kernel
theorem dL_steps_100 : decode cL_steps 100 = .ok (.iload 7, 2) := by decide +kernel
theorem dL_steps_102 : decode cL_steps 102 = .ok (.ireturn, 1) := by decide +kernel
set_option maxRecDepth 20000 in
theorem ggL_areTold_X6_count : GoodIn wsL_areTold wsX6_count := goodIn_r _ [6, 7, 8, 9, 10, 11, 12, 13, 14, 15, 16, 17, 18, 19, 20, 21, 22, 23, 24, 25, 26, 27, 28, 29, 30, 31, 32, 33, 34, 35, 36, 37, 38, 39, 40, 41, 42, 43, 44, 45, 46, 47, 48, 49, 50, 51, 52, 53, 54, 55, 56, 57, 58, 59, 60, 61, 62, 63, 64, 65, 66, 67, 68, 69, 70, 71, 72, 73, 74, 75, 76, 77, 5, 78, 79, 80, 81, 82, 83, 144, 145, 146, 147, 148, 149, 150, 151, 152, 153, 154, 155, 156, 157, 158, 159, 160, 161, 162, 163, 164, 165, 166, 167, 168, 169, 170, 171, 172, 173, 174, 175, 176, 177, 178, 179, 180, 181, 182] (by decide +kernel) (by decide +kernel)
set_option maxRecDepth 20000 in
theorem gL_areTold_X6_count : GoodIn wsL_areTold (wsV RL 46 RX6 yX6_count wsX6_count) := goodIn_app (goodIn_of _ (by decide +kernel)) ggL_areTold_X6_count
set_option maxRecDepth 20000 in
theorem ggL_areTold_L_many : GoodIn wsL_areTold wsL_many := goodIn_r _ [87] (by decide +kernel) (by decide +kernel)
set_option maxRecDepth 20000 in
theorem gL_areTold_L_many : GoodIn wsL_areTold (va_wsS RL 9 yL_many wsL_many) := goodIn_app (goodIn_of _ (by decide +kernel)) ggL_areTold_L_many
set_option maxRecDepth 20000 in
theorem ggL_areTold_L_weights : GoodIn wsL_areTold wsL_weights := goodIn_r _ [90, 84, 85, 86, 87, 91, 92, 93] (by decide +kernel) (by decide +kernel)
set_option maxRecDepth 20000 in
theorem gL_areTold_L_weights : GoodIn wsL_areTold (va_wsS RL 23 yL_weights wsL_weights) := goodIn_app (goodIn_of _ (by decide +kernel)) ggL_areTold_L_weights
set_option maxRecDepth 20000 in
theorem ggL_areTold_X6_rate : GoodIn wsL_areTold wsX6_rate := goodIn_r _ [97, 7, 79, 80, 81, 13, 82, 83, 144, 145, 146, 147, 148, 149, 150, 151, 152, 153, 154, 155, 156, 157, 158, 159, 160] (by decide +kernel) (by decide +kernel)
set_option maxRecDepth 20000 in
theorem gL_areTold_X6_rate : GoodIn wsL_areTold (wsV RL 52 RX6 yX6_rate wsX6_rate) := goodIn_app (goodIn_of _ (by decide +kernel)) ggL_areTold_X6_rate
set_option maxRecDepth 20000 in
theorem ggL_areTold_L_first : GoodIn wsL_areTold wsL_first := goodIn_r _ [100, 84, 85, 86, 87] (by decide +kernel) (by decide +kernel)
set_option maxRecDepth 20000 in
theorem gL_areTold_L_first : GoodIn wsL_areTold (va_wsS RL 19 yL_first wsL_first) := goodIn_app (goodIn_of _ (by decide +kernel)) ggL_areTold_L_first
set_option maxRecDepth 20000 in
theorem ggL_areTold_X6_remembered : GoodIn wsL_areTold wsX6_remembered := goodIn_r _ [104, 7, 105, 106, 5, 107, 76, 77, 78, 23, 24, 25, 13, 26, 27, 108, 40, 41, 31, 42, 33, 109, 110, 111, 112, 59, 60, 61, 62, 63, 113, 114, 115, 116, 117, 118, 119, 120, 121, 122, 123, 124, 125, 126, 38, 127, 128, 129, 46, 130, 48, 131, 132, 133, 44, 45, 47, 144, 145, 146, 147, 148, 149, 150, 151, 152, 153, 154, 155, 156, 157, 158, 159, 160, 164, 165, 166, 167, 168, 169, 170] (by decide +kernel) (by decide +kernel)
set_option maxRecDepth 20000 in
theorem gL_areTold_X6_remembered : GoodIn wsL_areTold (wsV RL 56 RX6 yX6_remembered wsX6_remembered) := goodIn_app (goodIn_of _ (by decide +kernel)) ggL_areTold_X6_remembered
set_option maxRecDepth 20000 in
theorem ggL_areTold_L_out : GoodIn wsL_areTold wsL_out := goodIn_r _ [136] (by decide +kernel) (by decide +kernel)
set_option maxRecDepth 20000 in
theorem gL_areTold_L_out : GoodIn wsL_areTold (va_wsS RL 27 yL_out wsL_out) := goodIn_app (goodIn_of _ (by decide +kernel)) ggL_areTold_L_out
set_option maxRecDepth 20000 in
theorem ggL_areTold_L_weight : GoodIn wsL_areTold wsL_weight := goodIn_r _ [93] (by decide +kernel) (by decide +kernel)
set_option maxRecDepth 20000 in
theorem gL_areTold_L_weight : GoodIn wsL_areTold (va_wsS RL 15 yL_weight wsL_weight) := goodIn_app (goodIn_of _ (by decide +kernel)) ggL_areTold_L_weight
set_option maxRecDepth 20000 in
theorem ggL_areTold_L_has : GoodIn wsL_areTold wsL_has := goodIn_r _ [139] (by decide +kernel) (by decide +kernel)
set_option maxRecDepth 20000 in
theorem gL_areTold_L_has : GoodIn wsL_areTold (va_wsS RL 31 yL_has wsL_has) := goodIn_app (goodIn_of _ (by decide +kernel)) ggL_areTold_L_has
set_option maxRecDepth 20000 in
theorem ggL_areTold_X6_answer : GoodIn wsL_areTold wsX6_answer := goodIn_r _ [143, 7, 105, 106, 5, 107, 76, 77, 78, 123, 124, 125, 13, 126, 38, 127, 128, 129, 46, 130, 48, 131, 132, 133, 44, 45, 47, 144, 145, 146, 147, 148, 149, 150, 151, 152, 153, 154, 155, 156, 157, 158, 159, 160, 168, 169, 170] (by decide +kernel) (by decide +kernel)
set_option maxRecDepth 20000 in
theorem gL_areTold_X6_answer : GoodIn wsL_areTold (wsV RL 60 RX6 yX6_answer wsX6_answer) := goodIn_app (goodIn_of _ (by decide +kernel)) ggL_areTold_X6_answer
theorem dL_areTold_0 : decode cL_areTold 0 = .ok (.aload_n 0, 1) := by decide +kernel
theorem dL_areTold_1 : decode cL_areTold 1 = .ok (.iconst 0, 1) := by decide +kernel
theorem dL_areTold_2 : decode cL_areTold 2 = .ok (.invokevirtual 46, 3) := by decide +kernel
theorem dL_areTold_5 : decode cL_areTold 5 = .ok (.aload_n 1, 1) := by decide +kernel
theorem dL_areTold_6 : decode cL_areTold 6 = .ok (.bipush 6, 2) := by decide +kernel
theorem dL_areTold_8 : decode cL_areTold 8 = .ok (.iaload, 1) := by decide +kernel
theorem dL_areTold_9 : decode cL_areTold 9 = .ok (.if_icmp .ne 86, 3) := by decide +kernel
theorem dL_areTold_12 : decode cL_areTold 12 = .ok (.aload_n 0, 1) := by decide +kernel
theorem dL_areTold_13 : decode cL_areTold 13 = .ok (.iconst 1, 1) := by decide +kernel
theorem dL_areTold_14 : decode cL_areTold 14 = .ok (.invokevirtual 46, 3) := by decide +kernel
theorem dL_areTold_17 : decode cL_areTold 17 = .ok (.aload_n 1, 1) := by decide +kernel
theorem dL_areTold_18 : decode cL_areTold 18 = .ok (.iconst 5, 1) := by decide +kernel
theorem dL_areTold_19 : decode cL_areTold 19 = .ok (.iaload, 1) := by decide +kernel
theorem dL_areTold_20 : decode cL_areTold 20 = .ok (.if_icmp .ne 75, 3) := by decide +kernel
theorem dL_areTold_23 : decode cL_areTold 23 = .ok (.aload_n 0, 1) := by decide +kernel
theorem dL_areTold_24 : decode cL_areTold 24 = .ok (.iconst 2, 1) := by decide +kernel
theorem dL_areTold_25 : decode cL_areTold 25 = .ok (.invokevirtual 46, 3) := by decide +kernel
theorem dL_areTold_28 : decode cL_areTold 28 = .ok (.aload 4, 2) := by decide +kernel
theorem dL_areTold_30 : decode cL_areTold 30 = .ok (.invokestatic 9, 3) := by decide +kernel
theorem dL_areTold_33 : decode cL_areTold 33 = .ok (.if_icmp .ne 62, 3) := by decide +kernel
theorem dL_areTold_36 : decode cL_areTold 36 = .ok (.aload_n 0, 1) := by decide +kernel
theorem dL_areTold_37 : decode cL_areTold 37 = .ok (.iconst 3, 1) := by decide +kernel
theorem dL_areTold_38 : decode cL_areTold 38 = .ok (.invokevirtual 46, 3) := by decide +kernel
theorem dL_areTold_41 : decode cL_areTold 41 = .ok (.aload_n 1, 1) := by decide +kernel
theorem dL_areTold_42 : decode cL_areTold 42 = .ok (.aload_n 2, 1) := by decide +kernel
theorem dL_areTold_43 : decode cL_areTold 43 = .ok (.aload 4, 2) := by decide +kernel
theorem dL_areTold_45 : decode cL_areTold 45 = .ok (.invokestatic 23, 3) := by decide +kernel
theorem dL_areTold_48 : decode cL_areTold 48 = .ok (.if_icmp .ne 47, 3) := by decide +kernel
theorem dL_areTold_51 : decode cL_areTold 51 = .ok (.aload_n 0, 1) := by decide +kernel
theorem dL_areTold_52 : decode cL_areTold 52 = .ok (.invokevirtual 52, 3) := by decide +kernel
theorem dL_areTold_55 : decode cL_areTold 55 = .ok (.aload_n 1, 1) := by decide +kernel
theorem dL_areTold_56 : decode cL_areTold 56 = .ok (.bipush 9, 2) := by decide +kernel
theorem dL_areTold_58 : decode cL_areTold 58 = .ok (.iaload, 1) := by decide +kernel
theorem dL_areTold_59 : decode cL_areTold 59 = .ok (.aload_n 1, 1) := by decide +kernel
theorem dL_areTold_60 : decode cL_areTold 60 = .ok (.bipush 10, 2) := by decide +kernel
theorem dL_areTold_62 : decode cL_areTold 62 = .ok (.iaload, 1) := by decide +kernel
theorem dL_areTold_63 : decode cL_areTold 63 = .ok (.iadd, 1) := by decide +kernel
theorem dL_areTold_64 : decode cL_areTold 64 = .ok (.ifCond .ne 7, 3) := by decide +kernel
theorem dL_areTold_67 : decode cL_areTold 67 = .ok (.dconst 0, 1) := by decide +kernel
theorem dL_areTold_68 : decode cL_areTold 68 = .ok (.goto 19, 3) := by decide +kernel
theorem dL_areTold_71 : decode cL_areTold 71 = .ok (.aload_n 1, 1) := by decide +kernel
theorem dL_areTold_72 : decode cL_areTold 72 = .ok (.bipush 9, 2) := by decide +kernel
theorem dL_areTold_74 : decode cL_areTold 74 = .ok (.iaload, 1) := by decide +kernel
theorem dL_areTold_75 : decode cL_areTold 75 = .ok (.i2d, 1) := by decide +kernel
theorem dL_areTold_76 : decode cL_areTold 76 = .ok (.aload_n 1, 1) := by decide +kernel
theorem dL_areTold_77 : decode cL_areTold 77 = .ok (.bipush 9, 2) := by decide +kernel
theorem dL_areTold_79 : decode cL_areTold 79 = .ok (.iaload, 1) := by decide +kernel
theorem dL_areTold_80 : decode cL_areTold 80 = .ok (.aload_n 1, 1) := by decide +kernel
theorem dL_areTold_81 : decode cL_areTold 81 = .ok (.bipush 10, 2) := by decide +kernel
theorem dL_areTold_83 : decode cL_areTold 83 = .ok (.iaload, 1) := by decide +kernel
theorem dL_areTold_84 : decode cL_areTold 84 = .ok (.iadd, 1) := by decide +kernel
theorem dL_areTold_85 : decode cL_areTold 85 = .ok (.i2d, 1) := by decide +kernel
theorem dL_areTold_86 : decode cL_areTold 86 = .ok (.ddiv, 1) := by decide +kernel
theorem dL_areTold_87 : decode cL_areTold 87 = .ok (.dcmp .l, 1) := by decide +kernel
theorem dL_areTold_88 : decode cL_areTold 88 = .ok (.ifCond .ne 7, 3) := by decide +kernel
theorem dL_areTold_91 : decode cL_areTold 91 = .ok (.iconst 1, 1) := by decide +kernel
theorem dL_areTold_92 : decode cL_areTold 92 = .ok (.goto 4, 3) := by decide +kernel
theorem dL_areTold_95 : decode cL_areTold 95 = .ok (.iconst 0, 1) := by decide +kernel
theorem dL_areTold_96 : decode cL_areTold 96 = .ok (.istore 7, 2) := by decide +kernel
theorem dL_areTold_98 : decode cL_areTold 98 = .ok (.iconst 0, 1) := by decide +kernel
theorem dL_areTold_99 : decode cL_areTold 99 = .ok (.istore 8, 2) := by decide +kernel
theorem dL_areTold_101 : decode cL_areTold 101 = .ok (.iload 8, 2) := by decide +kernel
theorem dL_areTold_103 : decode cL_areTold 103 = .ok (.bipush 9, 2) := by decide +kernel
theorem dL_areTold_105 : decode cL_areTold 105 = .ok (.if_icmp .ge 61, 3) := by decide +kernel
theorem dL_areTold_108 : decode cL_areTold 108 = .ok (.iload 7, 2) := by decide +kernel
theorem dL_areTold_110 : decode cL_areTold 110 = .ok (.ifCond .eq 47, 3) := by decide +kernel
theorem dL_areTold_113 : decode cL_areTold 113 = .ok (.aload_n 0, 1) := by decide +kernel
theorem dL_areTold_114 : decode cL_areTold 114 = .ok (.iconst 4, 1) := by decide +kernel
theorem dL_areTold_115 : decode cL_areTold 115 = .ok (.iload 8, 2) := by decide +kernel
theorem dL_areTold_117 : decode cL_areTold 117 = .ok (.iadd, 1) := by decide +kernel
theorem dL_areTold_118 : decode cL_areTold 118 = .ok (.invokevirtual 46, 3) := by decide +kernel
theorem dL_areTold_121 : decode cL_areTold 121 = .ok (.aload_n 1, 1) := by decide +kernel
theorem dL_areTold_122 : decode cL_areTold 122 = .ok (.bipush 7, 2) := by decide +kernel
theorem dL_areTold_124 : decode cL_areTold 124 = .ok (.iload 8, 2) := by decide +kernel
theorem dL_areTold_126 : decode cL_areTold 126 = .ok (.iadd, 1) := by decide +kernel
theorem dL_areTold_127 : decode cL_areTold 127 = .ok (.iaload, 1) := by decide +kernel
theorem dL_areTold_128 : decode cL_areTold 128 = .ok (.if_icmp .ne 29, 3) := by decide +kernel
theorem dL_areTold_131 : decode cL_areTold 131 = .ok (.iload 8, 2) := by decide +kernel
theorem dL_areTold_133 : decode cL_areTold 133 = .ok (.iconst 4, 1) := by decide +kernel
theorem dL_areTold_134 : decode cL_areTold 134 = .ok (.if_icmp .gt 19, 3) := by decide +kernel
theorem dL_areTold_137 : decode cL_areTold 137 = .ok (.aload_n 0, 1) := by decide +kernel
theorem dL_areTold_138 : decode cL_areTold 138 = .ok (.bipush 13, 2) := by decide +kernel
theorem dL_areTold_140 : decode cL_areTold 140 = .ok (.iload 8, 2) := by decide +kernel
theorem dL_areTold_142 : decode cL_areTold 142 = .ok (.iadd, 1) := by decide +kernel
theorem dL_areTold_143 : decode cL_areTold 143 = .ok (.invokevirtual 46, 3) := by decide +kernel
theorem dL_areTold_146 : decode cL_areTold 146 = .ok (.aload_n 1, 1) := by decide +kernel
theorem dL_areTold_147 : decode cL_areTold 147 = .ok (.iload 8, 2) := by decide +kernel
theorem dL_areTold_149 : decode cL_areTold 149 = .ok (.iaload, 1) := by decide +kernel
theorem dL_areTold_150 : decode cL_areTold 150 = .ok (.if_icmp .ne 7, 3) := by decide +kernel
theorem dL_areTold_153 : decode cL_areTold 153 = .ok (.iconst 1, 1) := by decide +kernel
theorem dL_areTold_154 : decode cL_areTold 154 = .ok (.goto 4, 3) := by decide +kernel
theorem dL_areTold_157 : decode cL_areTold 157 = .ok (.iconst 0, 1) := by decide +kernel
theorem dL_areTold_158 : decode cL_areTold 158 = .ok (.istore 7, 2) := by decide +kernel

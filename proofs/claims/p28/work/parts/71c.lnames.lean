theorem dL_isGone_80 : decode cL_isGone 80 = .ok (.imul, 1) := by decide +kernel
theorem dL_isGone_81 : decode cL_isGone 81 = .ok (.istore 9, 2) := by decide +kernel
theorem dL_isGone_83 : decode cL_isGone 83 = .ok (.iload 9, 2) := by decide +kernel
theorem dL_isGone_85 : decode cL_isGone 85 = .ok (.iconst 2, 1) := by decide +kernel
theorem dL_isGone_86 : decode cL_isGone 86 = .ok (.iload 6, 2) := by decide +kernel
theorem dL_isGone_88 : decode cL_isGone 88 = .ok (.ifCond .eq 9, 3) := by decide +kernel
theorem dL_isGone_91 : decode cL_isGone 91 = .ok (.aload_n 1, 1) := by decide +kernel
theorem dL_isGone_92 : decode cL_isGone 92 = .ok (.iconst 5, 1) := by decide +kernel
theorem dL_isGone_93 : decode cL_isGone 93 = .ok (.iaload, 1) := by decide +kernel
theorem dL_isGone_94 : decode cL_isGone 94 = .ok (.goto 7, 3) := by decide +kernel
theorem dL_isGone_97 : decode cL_isGone 97 = .ok (.aload_n 1, 1) := by decide +kernel
theorem dL_isGone_98 : decode cL_isGone 98 = .ok (.bipush 6, 2) := by decide +kernel
theorem dL_isGone_100 : decode cL_isGone 100 = .ok (.iaload, 1) := by decide +kernel
theorem dL_isGone_101 : decode cL_isGone 101 = .ok (.imul, 1) := by decide +kernel
theorem dL_isGone_102 : decode cL_isGone 102 = .ok (.if_icmp .ge 37, 3) := by decide +kernel
theorem dL_isGone_105 : decode cL_isGone 105 = .ok (.iload 6, 2) := by decide +kernel
theorem dL_isGone_107 : decode cL_isGone 107 = .ok (.ifCond .eq 16, 3) := by decide +kernel
theorem dL_isGone_110 : decode cL_isGone 110 = .ok (.aload_n 2, 1) := by decide +kernel
theorem dL_isGone_111 : decode cL_isGone 111 = .ok (.iload 9, 2) := by decide +kernel
theorem dL_isGone_113 : decode cL_isGone 113 = .ok (.aload_n 2, 1) := by decide +kernel
theorem dL_isGone_114 : decode cL_isGone 114 = .ok (.iload 9, 2) := by decide +kernel
theorem dL_isGone_116 : decode cL_isGone 116 = .ok (.iconst 2, 1) := by decide +kernel
theorem dL_isGone_117 : decode cL_isGone 117 = .ok (.iadd, 1) := by decide +kernel
theorem dL_isGone_118 : decode cL_isGone 118 = .ok (.iaload, 1) := by decide +kernel
theorem dL_isGone_119 : decode cL_isGone 119 = .ok (.iastore, 1) := by decide +kernel
theorem dL_isGone_120 : decode cL_isGone 120 = .ok (.goto 13, 3) := by decide +kernel
theorem dL_isGone_123 : decode cL_isGone 123 = .ok (.aload_n 3, 1) := by decide +kernel
theorem dL_isGone_124 : decode cL_isGone 124 = .ok (.iload 9, 2) := by decide +kernel
theorem dL_isGone_126 : decode cL_isGone 126 = .ok (.aload_n 3, 1) := by decide +kernel
theorem dL_isGone_127 : decode cL_isGone 127 = .ok (.iload 9, 2) := by decide +kernel
theorem dL_isGone_129 : decode cL_isGone 129 = .ok (.iconst 2, 1) := by decide +kernel
theorem dL_isGone_130 : decode cL_isGone 130 = .ok (.iadd, 1) := by decide +kernel
theorem dL_isGone_131 : decode cL_isGone 131 = .ok (.iaload, 1) := by decide +kernel
theorem dL_isGone_132 : decode cL_isGone 132 = .ok (.iastore, 1) := by decide +kernel
theorem dL_isGone_133 : decode cL_isGone 133 = .ok (.iinc 9 1, 3) := by decide +kernel
theorem dL_isGone_136 : decode cL_isGone 136 = .ok (.goto (-53), 3) := by decide +kernel
theorem dL_isGone_139 : decode cL_isGone 139 = .ok (.iload 6, 2) := by decide +kernel
theorem dL_isGone_141 : decode cL_isGone 141 = .ok (.ifCond .eq 18, 3) := by decide +kernel
theorem dL_isGone_144 : decode cL_isGone 144 = .ok (.aload_n 1, 1) := by decide +kernel
theorem dL_isGone_145 : decode cL_isGone 145 = .ok (.aload 4, 2) := by decide +kernel
theorem dL_isGone_147 : decode cL_isGone 147 = .ok (.aload 5, 2) := by decide +kernel
theorem dL_isGone_149 : decode cL_isGone 149 = .ok (.iload 8, 2) := by decide +kernel
theorem dL_isGone_151 : decode cL_isGone 151 = .ok (.iload 8, 2) := by decide +kernel
theorem dL_isGone_153 : decode cL_isGone 153 = .ok (.invokestatic 73, 3) := by decide +kernel
theorem dL_isGone_156 : decode cL_isGone 156 = .ok (.goto 24, 3) := by decide +kernel
theorem dL_isGone_159 : decode cL_isGone 159 = .ok (.aload_n 1, 1) := by decide +kernel
theorem dL_isGone_160 : decode cL_isGone 160 = .ok (.bipush 7, 2) := by decide +kernel
theorem dL_isGone_162 : decode cL_isGone 162 = .ok (.dup2, 1) := by decide +kernel
theorem dL_isGone_163 : decode cL_isGone 163 = .ok (.iaload, 1) := by decide +kernel
theorem dL_isGone_164 : decode cL_isGone 164 = .ok (.iload 7, 2) := by decide +kernel
theorem dL_isGone_166 : decode cL_isGone 166 = .ok (.aload_n 1, 1) := by decide +kernel
theorem dL_isGone_167 : decode cL_isGone 167 = .ok (.bipush 7, 2) := by decide +kernel
theorem dL_isGone_169 : decode cL_isGone 169 = .ok (.iaload, 1) := by decide +kernel
theorem dL_isGone_170 : decode cL_isGone 170 = .ok (.if_icmp .ge 7, 3) := by decide +kernel
theorem dL_isGone_173 : decode cL_isGone 173 = .ok (.iconst 1, 1) := by decide +kernel
theorem dL_isGone_174 : decode cL_isGone 174 = .ok (.goto 4, 3) := by decide +kernel
theorem dL_isGone_177 : decode cL_isGone 177 = .ok (.iconst 0, 1) := by decide +kernel
theorem dL_isGone_178 : decode cL_isGone 178 = .ok (.isub, 1) := by decide +kernel
theorem dL_isGone_179 : decode cL_isGone 179 = .ok (.iastore, 1) := by decide +kernel
theorem dL_isGone_180 : decode cL_isGone 180 = .ok (.aload_n 0, 1) := by decide +kernel
theorem dL_isGone_181 : decode cL_isGone 181 = .ok (.iload 6, 2) := by decide +kernel
theorem dL_isGone_183 : decode cL_isGone 183 = .ok (.iload 7, 2) := by decide +kernel
theorem dL_isGone_185 : decode cL_isGone 185 = .ok (.invokevirtual 77, 3) := by decide +kernel
theorem dL_isGone_188 : decode cL_isGone 188 = .ok (.iload 6, 2) := by decide +kernel
theorem dL_isGone_190 : decode cL_isGone 190 = .ok (.ifCond .eq 9, 3) := by decide +kernel
theorem dL_isGone_193 : decode cL_isGone 193 = .ok (.aload_n 1, 1) := by decide +kernel
theorem dL_isGone_194 : decode cL_isGone 194 = .ok (.iconst 5, 1) := by decide +kernel
theorem dL_isGone_195 : decode cL_isGone 195 = .ok (.iaload, 1) := by decide +kernel
theorem dL_isGone_196 : decode cL_isGone 196 = .ok (.goto 7, 3) := by decide +kernel
theorem dL_isGone_199 : decode cL_isGone 199 = .ok (.aload_n 1, 1) := by decide +kernel
theorem dL_isGone_200 : decode cL_isGone 200 = .ok (.bipush 6, 2) := by decide +kernel
theorem dL_isGone_202 : decode cL_isGone 202 = .ok (.iaload, 1) := by decide +kernel
theorem dL_isGone_203 : decode cL_isGone 203 = .ok (.if_icmp .ne 7, 3) := by decide +kernel
theorem dL_isGone_206 : decode cL_isGone 206 = .ok (.iconst 1, 1) := by decide +kernel
theorem dL_isGone_207 : decode cL_isGone 207 = .ok (.goto 4, 3) := by decide +kernel
theorem dL_isGone_210 : decode cL_isGone 210 = .ok (.iconst 0, 1) := by decide +kernel
theorem dL_isGone_211 : decode cL_isGone 211 = .ok (.ireturn, 1) := by decide +kernel
set_option maxRecDepth 20000 in
theorem ggL_isSet_L_room : GoodIn wsL_isSet wsL_room := goodIn_r _ [4, 5, 6, 3, 7, 8, 9, 10, 11, 12, 13, 14, 15, 16, 17, 18, 19] (by decide +kernel) (by decide +kernel)
set_option maxRecDepth 20000 in
theorem gL_isSet_L_room : GoodIn wsL_isSet (va_wsS RL 39 yL_room wsL_room) := goodIn_app (goodIn_of _ (by decide +kernel)) ggL_isSet_L_room
set_option maxRecDepth 20000 in
theorem ggL_isSet_L_goes : GoodIn wsL_isSet wsL_goes := goodIn_r _ [22, 8, 9, 3, 10, 17, 18, 19] (by decide +kernel) (by decide +kernel)
set_option maxRecDepth 20000 in
theorem gL_isSet_L_goes : GoodIn wsL_isSet (va_wsS RL 35 yL_goes wsL_goes) := goodIn_app (goodIn_of _ (by decide +kernel)) ggL_isSet_L_goes
set_option maxRecDepth 20000 in
theorem ggL_isSet_X6_set : GoodIn wsL_isSet wsX6_set := goodIn_r _ [27, 28, 29, 30, 31, 32, 33, 34, 35, 36, 37, 38, 39, 40, 41, 42, 43, 44, 45, 46, 47, 48, 49, 50, 51, 52, 53, 54, 55, 56, 57, 58, 59, 60, 61, 62, 26, 63, 64, 65, 66, 67, 68, 69, 70, 71, 72, 73, 74, 75, 76, 77, 78, 79, 80, 81, 82, 83, 84, 85, 86, 87, 88, 89, 90, 91, 92, 93, 94, 95, 96, 97, 98, 99, 100, 101, 102, 103, 104, 105, 106, 107, 108, 109, 110, 111, 112, 113, 114, 115, 116, 117, 118, 119, 120, 121, 122, 123, 124, 125, 126, 127, 128, 129, 130, 131, 132, 133, 134, 135, 136, 137, 138, 139, 140, 141, 142, 143, 144, 145, 146, 147, 148, 149, 150, 151, 152, 153, 154, 155, 156, 157, 158, 159, 160, 161, 162, 163, 164, 165, 166, 167, 168, 169, 170, 171, 172, 173, 174, 175, 176, 177, 178, 179, 180, 181, 182, 183, 184, 185, 186, 187, 188, 189] (by decide +kernel) (by decide +kernel)
set_option maxRecDepth 20000 in
theorem gL_isSet_X6_set : GoodIn wsL_isSet (wsV RL 81 RX6 yX6_set wsX6_set) := goodIn_app (goodIn_of _ (by decide +kernel)) ggL_isSet_X6_set
theorem dL_isSet_0 : decode cL_isSet 0 = .ok (.iload 6, 2) := by decide +kernel
theorem dL_isSet_2 : decode cL_isSet 2 = .ok (.ifCond .ne 11, 3) := by decide +kernel
theorem dL_isSet_5 : decode cL_isSet 5 = .ok (.iload 7, 2) := by decide +kernel
theorem dL_isSet_7 : decode cL_isSet 7 = .ok (.bipush 61, 2) := by decide +kernel
theorem dL_isSet_9 : decode cL_isSet 9 = .ok (.irem, 1) := by decide +kernel
theorem dL_isSet_10 : decode cL_isSet 10 = .ok (.goto 38, 3) := by decide +kernel
theorem dL_isSet_13 : decode cL_isSet 13 = .ok (.iload 6, 2) := by decide +kernel
theorem dL_isSet_15 : decode cL_isSet 15 = .ok (.iconst 3, 1) := by decide +kernel
theorem dL_isSet_16 : decode cL_isSet 16 = .ok (.if_icmp .ge 10, 3) := by decide +kernel
theorem dL_isSet_19 : decode cL_isSet 19 = .ok (.iload 7, 2) := by decide +kernel
theorem dL_isSet_21 : decode cL_isSet 21 = .ok (.iconst 3, 1) := by decide +kernel
theorem dL_isSet_22 : decode cL_isSet 22 = .ok (.irem, 1) := by decide +kernel
theorem dL_isSet_23 : decode cL_isSet 23 = .ok (.goto 25, 3) := by decide +kernel
theorem dL_isSet_26 : decode cL_isSet 26 = .ok (.iload 6, 2) := by decide +kernel
theorem dL_isSet_28 : decode cL_isSet 28 = .ok (.iconst 3, 1) := by decide +kernel
theorem dL_isSet_29 : decode cL_isSet 29 = .ok (.if_icmp .ne 11, 3) := by decide +kernel
theorem dL_isSet_32 : decode cL_isSet 32 = .ok (.iload 7, 2) := by decide +kernel
theorem dL_isSet_34 : decode cL_isSet 34 = .ok (.bipush 40, 2) := by decide +kernel
theorem dL_isSet_36 : decode cL_isSet 36 = .ok (.irem, 1) := by decide +kernel
theorem dL_isSet_37 : decode cL_isSet 37 = .ok (.goto 11, 3) := by decide +kernel
theorem dL_isSet_40 : decode cL_isSet 40 = .ok (.bipush 99, 2) := by decide +kernel
theorem dL_isSet_42 : decode cL_isSet 42 = .ok (.iload 7, 2) := by decide +kernel
theorem dL_isSet_44 : decode cL_isSet 44 = .ok (.bipush 40, 2) := by decide +kernel
theorem dL_isSet_46 : decode cL_isSet 46 = .ok (.irem, 1) := by decide +kernel
theorem dL_isSet_47 : decode cL_isSet 47 = .ok (.isub, 1) := by decide +kernel
theorem dL_isSet_48 : decode cL_isSet 48 = .ok (.istore 8, 2) := by decide +kernel
theorem dL_isSet_50 : decode cL_isSet 50 = .ok (.aload_n 1, 1) := by decide +kernel
theorem dL_isSet_51 : decode cL_isSet 51 = .ok (.iload 6, 2) := by decide +kernel
theorem dL_isSet_53 : decode cL_isSet 53 = .ok (.iload 8, 2) := by decide +kernel
theorem dL_isSet_55 : decode cL_isSet 55 = .ok (.iastore, 1) := by decide +kernel
theorem dL_isSet_56 : decode cL_isSet 56 = .ok (.iload 6, 2) := by decide +kernel
theorem dL_isSet_58 : decode cL_isSet 58 = .ok (.ifCond .ne 17, 3) := by decide +kernel
theorem dL_isSet_61 : decode cL_isSet 61 = .ok (.aload_n 1, 1) := by decide +kernel
theorem dL_isSet_62 : decode cL_isSet 62 = .ok (.aload_n 2, 1) := by decide +kernel
theorem dL_isSet_63 : decode cL_isSet 63 = .ok (.aload_n 3, 1) := by decide +kernel
theorem dL_isSet_64 : decode cL_isSet 64 = .ok (.aload 4, 2) := by decide +kernel
theorem dL_isSet_66 : decode cL_isSet 66 = .ok (.aload 5, 2) := by decide +kernel
theorem dL_isSet_68 : decode cL_isSet 68 = .ok (.iconst (-1), 1) := by decide +kernel
theorem dL_isSet_69 : decode cL_isSet 69 = .ok (.invokestatic 39, 3) := by decide +kernel
theorem dL_isSet_72 : decode cL_isSet 72 = .ok (.goto 11, 3) := by decide +kernel
theorem dL_isSet_75 : decode cL_isSet 75 = .ok (.aload_n 1, 1) := by decide +kernel
theorem dL_isSet_76 : decode cL_isSet 76 = .ok (.aload_n 3, 1) := by decide +kernel
theorem dL_isSet_77 : decode cL_isSet 77 = .ok (.aload 4, 2) := by decide +kernel
theorem dL_isSet_79 : decode cL_isSet 79 = .ok (.iconst (-1), 1) := by decide +kernel
theorem dL_isSet_80 : decode cL_isSet 80 = .ok (.invokestatic 35, 3) := by decide +kernel
theorem dL_isSet_83 : decode cL_isSet 83 = .ok (.istore 9, 2) := by decide +kernel
theorem dL_isSet_85 : decode cL_isSet 85 = .ok (.aload_n 0, 1) := by decide +kernel
theorem dL_isSet_86 : decode cL_isSet 86 = .ok (.iload 6, 2) := by decide +kernel
theorem dL_isSet_88 : decode cL_isSet 88 = .ok (.iload 8, 2) := by decide +kernel
theorem dL_isSet_90 : decode cL_isSet 90 = .ok (.invokevirtual 81, 3) := by decide +kernel
theorem dL_isSet_93 : decode cL_isSet 93 = .ok (.iload 9, 2) := by decide +kernel
theorem dL_isSet_95 : decode cL_isSet 95 = .ok (.if_icmp .ne 7, 3) := by decide +kernel
theorem dL_isSet_98 : decode cL_isSet 98 = .ok (.iconst 1, 1) := by decide +kernel

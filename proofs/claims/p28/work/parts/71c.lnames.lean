theorem dL_isGone_80 : decode cL_isGone 80 = .ok (.imul, 1) := by decide +kernel
theorem dL_isGone_81 : decode cL_isGone 81 = .ok (.istore 9, 2) := by decide +kernel
theorem dL_isGone_83 : decode cL_isGone 83 = .ok (.iload 9, 2) := by decide +kernel
theorem dL_isGone_85 : decode cL_isGone 85 = .ok (.iconst 2, 1) := by decide +kernel
theorem dL_isGone_86 : decode cL_isGone 86 = .ok (.iload 6, 2) := by decide +kernel
theorem dL_isGone_88 : decode cL_isGone 88 = .ok (.ifCond .eq 9, 3) := by decide +kernel
theorem dL_isGone_91 : decode cL_isGone 91 = .ok (.aload_n 1, 1) := by decide +kernel
theorem dL_isGone_92 : decode cL_isGone 92 = .ok (.iconst 5, 1) := by decide +kernel
theorem dL_isGone_93 : decode cL_isGone 93 = .ok (.iaload, 1) := by decide +kernel
theorem dL_isGone_94 : decode cL_isGone 94 = .ok (.goto 7, 3) := by decide +kernel
theorem dL_isGone_97 : decode cL_isGone 97 = .ok (.aload_n 1, 1) := by decide +kernel
theorem dL_isGone_98 : decode cL_isGone 98 = .ok (.bipush 6, 2) := by decide +kernel
theorem dL_isGone_100 : decode cL_isGone 100 = .ok (.iaload, 1) := by decide +kernel
theorem dL_isGone_101 : decode cL_isGone 101 = .ok (.imul, 1) := by decide +kernel
theorem dL_isGone_102 : decode cL_isGone 102 = .ok (.if_icmp .ge 37, 3) := by decide +kernel
theorem dL_isGone_105 : decode cL_isGone 105 = .ok (.iload 6, 2) := by decide +kernel
theorem dL_isGone_107 : decode cL_isGone 107 = .ok (.ifCond .eq 16, 3) := by decide +kernel
theorem dL_isGone_110 : decode cL_isGone 110 = .ok (.aload_n 2, 1) := by decide +kernel
theorem dL_isGone_111 : decode cL_isGone 111 = .ok (.iload 9, 2) := by decide +kernel
theorem dL_isGone_113 : decode cL_isGone 113 = .ok (.aload_n 2, 1) := by decide +kernel
theorem dL_isGone_114 : decode cL_isGone 114 = .ok (.iload 9, 2) := by decide +kernel
theorem dL_isGone_116 : decode cL_isGone 116 = .ok (.iconst 2, 1) := by decide +kernel
theorem dL_isGone_117 : decode cL_isGone 117 = .ok (.iadd, 1) := by decide +kernel
theorem dL_isGone_118 : decode cL_isGone 118 = .ok (.iaload, 1) := by decide +kernel
theorem dL_isGone_119 : decode cL_isGone 119 = .ok (.iastore, 1) := by decide +kernel
theorem dL_isGone_120 : decode cL_isGone 120 = .ok (.goto 13, 3) := by decide +kernel
theorem dL_isGone_123 : decode cL_isGone 123 = .ok (.aload_n 3, 1) := by decide +kernel
theorem dL_isGone_124 : decode cL_isGone 124 = .ok (.iload 9, 2) := by decide +kernel
theorem dL_isGone_126 : decode cL_isGone 126 = .ok (.aload_n 3, 1) := by decide +kernel
theorem dL_isGone_127 : decode cL_isGone 127 = .ok (.iload 9, 2) := by decide +kernel
theorem dL_isGone_129 : decode cL_isGone 129 = .ok (.iconst 2, 1) := by decide +kernel
theorem dL_isGone_130 : decode cL_isGone 130 = .ok (.iadd, 1) := by decide +kernel
theorem dL_isGone_131 : decode cL_isGone 131 = .ok (.iaload, 1) := by decide +kernel
theorem dL_isGone_132 : decode cL_isGone 132 = .ok (.iastore, 1) := by decide +kernel
theorem dL_isGone_133 : decode cL_isGone 133 = .ok (.iinc 9 1, 3) := by decide +kernel
theorem dL_isGone_136 : decode cL_isGone 136 = .ok (.goto (-53), 3) := by decide +kernel
theorem dL_isGone_139 : decode cL_isGone 139 = .ok (.iload 6, 2) := by decide +kernel
theorem dL_isGone_141 : decode cL_isGone 141 = .ok (.ifCond .eq 18, 3) := by decide +kernel
theorem dL_isGone_144 : decode cL_isGone 144 = .ok (.aload_n 1, 1) := by decide +kernel
theorem dL_isGone_145 : decode cL_isGone 145 = .ok (.aload 4, 2) := by decide +kernel
theorem dL_isGone_147 : decode cL_isGone 147 = .ok (.aload 5, 2) := by decide +kernel
theorem dL_isGone_149 : decode cL_isGone 149 = .ok (.iload 8, 2) := by decide +kernel
theorem dL_isGone_151 : decode cL_isGone 151 = .ok (.iload 8, 2) := by decide +kernel
theorem dL_isGone_153 : decode cL_isGone 153 = .ok (.invokestatic 73, 3) := by decide +kernel
theorem dL_isGone_156 : decode cL_isGone 156 = .ok (.goto 24, 3) := by decide +kernel
theorem dL_isGone_159 : decode cL_isGone 159 = .ok (.aload_n 1, 1) := by decide +kernel
theorem dL_isGone_160 : decode cL_isGone 160 = .ok (.bipush 7, 2) := by decide +kernel
theorem dL_isGone_162 : decode cL_isGone 162 = .ok (.dup2, 1) := by decide +kernel
theorem dL_isGone_163 : decode cL_isGone 163 = .ok (.iaload, 1) := by decide +kernel
theorem dL_isGone_164 : decode cL_isGone 164 = .ok (.iload 7, 2) := by decide +kernel
theorem dL_isGone_166 : decode cL_isGone 166 = .ok (.aload_n 1, 1) := by decide +kernel
theorem dL_isGone_167 : decode cL_isGone 167 = .ok (.bipush 7, 2) := by decide +kernel
theorem dL_isGone_169 : decode cL_isGone 169 = .ok (.iaload, 1) := by decide +kernel
theorem dL_isGone_170 : decode cL_isGone 170 = .ok (.if_icmp .ge 7, 3) := by decide +kernel
theorem dL_isGone_173 : decode cL_isGone 173 = .ok (.iconst 1, 1) := by decide +kernel
theorem dL_isGone_174 : decode cL_isGone 174 = .ok (.goto 4, 3) := by decide +kernel
theorem dL_isGone_177 : decode cL_isGone 177 = .ok (.iconst 0, 1) := by decide +kernel
theorem dL_isGone_178 : decode cL_isGone 178 = .ok (.isub, 1) := by decide +kernel
theorem dL_isGone_179 : decode cL_isGone 179 = .ok (.iastore, 1) := by decide +kernel
theorem dL_isGone_180 : decode cL_isGone 180 = .ok (.aload_n 0, 1) := by decide +kernel
theorem dL_isGone_181 : decode cL_isGone 181 = .ok (.iload 6, 2) := by decide +kernel
theorem dL_isGone_183 : decode cL_isGone 183 = .ok (.iload 7, 2) := by decide +kernel
theorem dL_isGone_185 : decode cL_isGone 185 = .ok (.invokevirtual 77, 3) := by decide +kernel
theorem dL_isGone_188 : decode cL_isGone 188 = .ok (.iload 6, 2) := by decide +kernel
theorem dL_isGone_190 : decode cL_isGone 190 = .ok (.ifCond .eq 9, 3) := by decide +kernel
theorem dL_isGone_193 : decode cL_isGone 193 = .ok (.aload_n 1, 1) := by decide +kernel
theorem dL_isGone_194 : decode cL_isGone 194 = .ok (.iconst 5, 1) := by decide +kernel
theorem dL_isGone_195 : decode cL_isGone 195 = .ok (.iaload, 1) := by decide +kernel
theorem dL_isGone_196 : decode cL_isGone 196 = .ok (.goto 7, 3) := by decide +kernel
theorem dL_isGone_199 : decode cL_isGone 199 = .ok (.aload_n 1, 1) := by decide +kernel
theorem dL_isGone_200 : decode cL_isGone 200 = .ok (.bipush 6, 2) := by decide +kernel
theorem dL_isGone_202 : decode cL_isGone 202 = .ok (.iaload, 1) := by decide +kernel
theorem dL_isGone_203 : decode cL_isGone 203 = .ok (.if_icmp .ne 7, 3) := by decide +kernel
theorem dL_isGone_206 : decode cL_isGone 206 = .ok (.iconst 1, 1) := by decide +kernel
theorem dL_isGone_207 : decode cL_isGone 207 = .ok (.goto 4, 3) := by decide +kernel
theorem dL_isGone_210 : decode cL_isGone 210 = .ok (.iconst 0, 1) := by decide +kernel
theorem dL_isGone_211 : decode cL_isGone 211 = .ok (.ireturn, 1) := by decide +kernel
set_option maxRecDepth 20000 in
theorem ggL_isSet_L_room : GoodIn wsL_isSet wsL_room := goodIn_r _ [4, 5, 6, 3, 7, 8, 9, 10, 11, 12, 13, 14, 15, 16, 17, 18, 19] (by decide +kernel) (by decide +kernel)
set_option maxRecDepth 20000 in
theorem gL_isSet_L_room : GoodIn wsL_isSet (va_wsS RL 39 yL_room wsL_room) := goodIn_app (goodIn_of _ (by decide +kernel)) ggL_isSet_L_room
set_option maxRecDepth 20000 in
theorem ggL_isSet_L_goes : GoodIn wsL_isSet wsL_goes := goodIn_r _ [22, 8, 9, 3, 10, 17, 18, 19] (by decide +kernel) (by decide +kernel)
set_option maxRecDepth 20000 in
theorem gL_isSet_L_goes : GoodIn wsL_isSet (va_wsS RL 35 yL_goes wsL_goes) := goodIn_app (goodIn_of _ (by decide +kernel)) ggL_isSet_L_goes
set_option maxRecDepth 20000 in
theorem ggL_isSet_X6_set : GoodIn wsL_isSet wsX6_set := goodIn_r _ [27, 28, 29, 30, 31, 32, 33, 34, 35, 36, 37, 38, 39, 40, 41, 42, 43, 44, 45, 46, 47, 48, 49, 50, 51, 52, 53, 54, 55, 56, 57, 58, 59, 60, 61, 62, 26, 63, 64, 65, 66, 67, 68, 69, 70, 71, 72, 73, 74, 75, 76, 77, 78, 79, 80, 81, 82, 83, 84, 85, 86, 87, 88, 89, 90, 91, 92, 93, 94, 95, 96, 97, 98, 99, 100, 101, 102, 103, 104, 105, 106, 107, 108, 109, 110, 111, 112, 113, 114, 115, 116, 117, 118, 119, 120, 121, 122, 123, 124, 125, 126, 127, 128, 129, 130, 131, 132, 133, 134, 135, 136, 137, 138, 139, 140, 141, 142, 143, 144, 145, 146, 147, 148, 149, 150, 151, 152, 153, 154, 155, 156, 157, 158, 159, 160, 161, 162, 163, 164, 165, 166, 167, 168, 169, 170, 171, 172, 173, 174, 175, 176, 177, 178, 179, 180, 181, 182, 183, 184, 185, 186, 187, 188, 189] (by decide +kernel) (by decide +kernel)
set_option maxRecDepth 20000 in
theorem gL_isSet_X6_set : GoodIn wsL_isSet (wsV RL 81 RX6 yX6_set wsX6_set) := goodIn_app (goodIn_of _ (by decide +kernel)) ggL_isSet_X6_set
theorem dL_isSet_0 : decode cL_isSet 0 = .ok (.iload 6, 2) := by decide +kernel
theorem dL_isSet_2 : decode cL_isSet 2 = .ok (.ifCond .ne 11, 3) := by decide +kernel
theorem dL_isSet_5 : decode cL_isSet 5 = .ok (.iload 7, 2) := by decide +kernel
theorem dL_isSet_7 : decode cL_isSet 7 = .ok (.bipush 61, 2) := by decide +kernel
theorem dL_isSet_9 : decode cL_isSet 9 = .ok (.irem, 1) := by decide +kernel
theorem dL_isSet_10 : decode cL_isSet 10 = .ok (.goto 38, 3) := by decide +kernel
theorem dL_isSet_13 : decode cL_isSet 13 = .ok (.iload 6, 2) := by decide +kernel
theorem dL_isSet_15 : decode cL_isSet 15 = .ok (.iconst 3, 1) := by decide +kernel
theorem dL_isSet_16 : decode cL_isSet 16 = .ok (.if_icmp .ge 10, 3) := by decide +kernel
theorem dL_isSet_19 : decode cL_isSet 19 = .ok (.iload 7, 2) := by decide +kernel
theorem dL_isSet_21 : decode cL_isSet 21 = .ok (.iconst 3, 1) := by decide +kernel
theorem dL_isSet_22 : decode cL_isSet 22 = .ok (.irem, 1) := by decide +kernel
theorem dL_isSet_23 : decode cL_isSet 23 = .ok (.goto 25, 3) := by decide +kernel
theorem dL_isSet_26 : decode cL_isSet 26 = .ok (.iload 6, 2) := by decide +kernel
theorem dL_isSet_28 : decode cL_isSet 28 = .ok (.iconst 3, 1) := by decide +kernel
theorem dL_isSet_29 : decode cL_isSet 29 = .ok (.if_icmp .ne 11, 3) := by decide +kernel
theorem dL_isSet_32 : decode cL_isSet 32 = .ok (.iload 7, 2) := by decide +kernel
theorem dL_isSet_34 : decode cL_isSet 34 = .ok (.bipush 40, 2) := by decide +kernel
theorem dL_isSet_36 : decode cL_isSet 36 = .ok (.irem, 1) := by decide +kernel
theorem dL_isSet_37 : decode cL_isSet 37 = .ok (.goto 11, 3) := by decide +kernel
theorem dL_isSet_40 : decode cL_isSet 40 = .ok (.bipush 99, 2) := by decide +kernel
theorem dL_isSet_42 : decode cL_isSet 42 = .ok (.iload 7, 2) := by decide +kernel
theorem dL_isSet_44 : decode cL_isSet 44 = .ok (.bipush 40, 2) := by decide +kernel
theorem dL_isSet_46 : decode cL_isSet 46 = .ok (.irem, 1) := by decide +kernel
theorem dL_isSet_47 : decode cL_isSet 47 = .ok (.isub, 1) := by decide +kernel
theorem dL_isSet_48 : decode cL_isSet 48 = .ok (.istore 8, 2) := by decide +kernel
theorem dL_isSet_50 : decode cL_isSet 50 = .ok (.aload_n 1, 1) := by decide +kernel
theorem dL_isSet_51 : decode cL_isSet 51 = .ok (.iload 6, 2) := by decide +kernel
theorem dL_isSet_53 : decode cL_isSet 53 = .ok (.iload 8, 2) := by decide +kernel
theorem dL_isSet_55 : decode cL_isSet 55 = .ok (.iastore, 1) := by decide +kernel
theorem dL_isSet_56 : decode cL_isSet 56 = .ok (.iload 6, 2) := by decide +kernel
theorem dL_isSet_58 : decode cL_isSet 58 = .ok (.ifCond .ne 17, 3) := by decide +kernel
theorem dL_isSet_61 : decode cL_isSet 61 = .ok (.aload_n 1, 1) := by decide +kernel
theorem dL_isSet_62 : decode cL_isSet 62 = .ok (.aload_n 2, 1) := by decide +kernel
theorem dL_isSet_63 : decode cL_isSet 63 = .ok (.aload_n 3, 1) := by decide +kernel
theorem dL_isSet_64 : decode cL_isSet 64 = .ok (.aload 4, 2) := by decide +kernel
theorem dL_isSet_66 : decode cL_isSet 66 = .ok (.aload 5, 2) := by decide +kernel
theorem dL_isSet_68 : decode cL_isSet 68 = .ok (.iconst (-1), 1) := by decide +kernel
theorem dL_isSet_69 : decode cL_isSet 69 = .ok (.invokestatic 39, 3) := by decide +kernel
theorem dL_isSet_72 : decode cL_isSet 72 = .ok (.goto 11, 3) := by decide +kernel
theorem dL_isSet_75 : decode cL_isSet 75 = .ok (.aload_n 1, 1) := by decide +kernel
theorem dL_isSet_76 : decode cL_isSet 76 = .ok (.aload_n 3, 1) := by decide +kernel
theorem dL_isSet_77 : decode cL_isSet 77 = .ok (.aload 4, 2) := by decide +kernel
theorem dL_isSet_79 : decode cL_isSet 79 = .ok (.iconst (-1), 1) := by decide +kernel
theorem dL_isSet_80 : decode cL_isSet 80 = .ok (.invokestatic 35, 3) := by decide +kernel
theorem dL_isSet_83 : decode cL_isSet 83 = .ok (.istore 9, 2) := by decide +kernel
theorem dL_isSet_85 : decode cL_isSet 85 = .ok (.aload_n 0, 1) := by decide +kernel
theorem dL_isSet_86 : decode cL_isSet 86 = .ok (.iload 6, 2) := by decide +kernel
theorem dL_isSet_88 : decode cL_isSet 88 = .ok (.iload 8, 2) := by decide +kernel
theorem dL_isSet_90 : decode cL_isSet 90 = .ok (.invokevirtual 81, 3) := by decide +kernel
theorem dL_isSet_93 : decode cL_isSet 93 = .ok (.iload 9, 2) := by decide +kernel
theorem dL_isSet_95 : decode cL_isSet 95 = .ok (.if_icmp .ne 7, 3) := by decide +kernel
theorem dL_isSet_98 : decode cL_isSet 98 = .ok (.iconst 1, 1) := by decide +kernel
theorem dL_isSet_99 : decode cL_isSet 99 = .ok (.goto 4, 3) := by decide +kernel
theorem dL_isSet_102 : decode cL_isSet 102 = .ok (.iconst 0, 1) := by decide +kernel
theorem dL_isSet_103 : decode cL_isSet 103 = .ok (.ireturn, 1) := by decide +kernel
set_option maxRecDepth 20000 in
theorem ggL_isActed_L_isRow : GoodIn wsL_isActed wsL_isRow := goodIn_r _ [4, 5, 6, 7, 8, 9, 10, 11, 12, 13, 14, 15, 16, 17, 18, 19, 20, 21, 22, 23, 24, 25, 26, 27, 28, 29, 30, 31, 32, 33, 34, 35, 36, 37, 38, 39, 40, 41, 42, 43, 44, 45, 46, 47, 48, 49, 50, 51, 52, 53, 54, 55, 56, 57, 58, 59, 60, 61, 62, 63, 64, 65, 66, 67, 68, 69, 70, 71, 72, 73, 74, 75, 76, 77, 78, 79, 80, 81, 82, 83, 84, 85, 86, 87, 88, 89, 90, 91, 92, 93, 94, 95, 96, 97, 98, 99, 100, 101, 102, 103, 104, 105, 106, 107, 108, 109, 110, 111, 112, 113, 114, 115, 116, 117, 118, 119, 120, 121, 122, 123, 124, 125, 126, 127, 128, 129, 130, 131, 132, 133, 134, 135, 136, 137, 138, 139, 140, 141, 142, 143, 144, 145, 146, 147, 148, 149, 150, 151, 3, 152, 153, 154, 155, 156, 157, 158, 159, 160, 161, 162, 163, 164, 290, 291, 292, 293, 294, 295, 296, 297, 298, 299, 300, 301, 302, 303, 304, 305, 306, 307, 308, 309, 310, 311, 312, 313, 314, 315, 316, 317, 318, 319] (by decide +kernel) (by decide +kernel)
set_option maxRecDepth 20000 in
theorem gL_isActed_L_isRow : GoodIn wsL_isActed (va_wsS RL 84 yL_isRow wsL_isRow) := goodIn_app (goodIn_of _ (by decide +kernel)) ggL_isActed_L_isRow
set_option maxRecDepth 20000 in
theorem ggL_isActed_L_isGone : GoodIn wsL_isActed wsL_isGone := goodIn_r _ [167, 168, 169, 170, 8, 171, 10, 11, 12, 13, 14, 15, 16, 17, 18, 19, 20, 21, 22, 23, 24, 25, 26, 27, 28, 29, 30, 31, 32, 33, 34, 35, 36, 37, 38, 39, 40, 41, 42, 43, 44, 45, 46, 47, 48, 49, 50, 51, 52, 53, 54, 55, 56, 57, 58, 59, 60, 61, 62, 63, 64, 65, 66, 67, 68, 69, 70, 172, 173, 174, 175, 83, 84, 85, 86, 176, 177, 178, 179, 180, 117, 118, 119, 181, 182, 183, 184, 185, 186, 187, 113, 114, 115, 95, 96, 97, 98, 99, 100, 101, 102, 103, 104, 105, 106, 107, 108, 109, 110, 111, 88, 89, 90, 112, 116, 120, 121, 122, 123, 124, 125, 126, 127, 128, 129, 130, 131, 132, 133, 134, 135, 136, 137, 138, 139, 140, 141, 142, 143, 188, 189, 190, 191, 87, 144, 145, 146, 147, 148, 149, 150, 151, 3, 152, 153, 154, 155, 156, 157, 158, 159, 160, 161, 162, 163, 164, 290, 291, 292, 293, 294, 295, 296, 297, 298, 299, 300, 301, 302, 303, 304, 305, 306, 307, 308, 309, 310, 311, 312, 313, 314, 315, 316, 317, 318, 319] (by decide +kernel) (by decide +kernel)
set_option maxRecDepth 20000 in
theorem gL_isActed_L_isGone : GoodIn wsL_isActed (va_wsS RL 88 yL_isGone wsL_isGone) := goodIn_app (goodIn_of _ (by decide +kernel)) ggL_isActed_L_isGone
set_option maxRecDepth 20000 in
theorem ggL_isActed_X6_change : GoodIn wsL_isActed wsX6_change := goodIn_r _ [195, 10, 11, 12, 13, 14, 15, 16, 17, 18, 19, 20, 21, 22, 23, 24, 25, 26, 27, 28, 29, 30, 31, 32, 33, 34, 35, 36, 37, 38, 39, 40, 41, 42, 43, 44, 8, 45, 46, 47, 48, 49, 50, 51, 52, 53, 54, 55, 56, 57, 58, 59, 60, 61, 62, 63, 64, 65, 66, 67, 68, 69, 70, 196, 197, 198, 199, 176, 177, 178, 179, 75, 76, 77, 78, 79, 80, 81, 82, 180, 117, 118, 119, 200, 96, 97, 98, 99, 100, 101, 102, 103, 104, 105, 106, 107, 108, 109, 110, 111, 88, 89, 90, 112, 113, 114, 115, 116, 120, 121, 122, 123, 124, 125, 126, 127, 128, 129, 130, 131, 132, 133, 134, 135, 136, 137, 138, 139, 140, 141, 142, 143, 201, 144, 145, 146, 147, 148, 149, 290, 291, 292, 293, 294, 295, 296, 297, 298, 299, 300, 301, 302, 303, 304, 305, 306, 307, 308, 309, 310, 311, 312, 313, 314, 315, 316, 317, 318, 319] (by decide +kernel) (by decide +kernel)
set_option maxRecDepth 20000 in
theorem gL_isActed_X6_change : GoodIn wsL_isActed (wsV RL 91 RX6 yX6_change wsX6_change) := goodIn_app (goodIn_of _ (by decide +kernel)) ggL_isActed_X6_change
set_option maxRecDepth 20000 in
theorem ggL_isActed_L_kept : GoodIn wsL_isActed wsL_kept := goodIn_r _ [152, 153, 154, 3, 155, 156, 157, 158, 159, 160, 161, 162, 163, 164] (by decide +kernel) (by decide +kernel)
set_option maxRecDepth 20000 in
theorem gL_isActed_L_kept : GoodIn wsL_isActed (va_wsS RL 73 yL_kept wsL_kept) := goodIn_app (goodIn_of _ (by decide +kernel)) ggL_isActed_L_kept
set_option maxRecDepth 20000 in
theorem ggL_isActed_L_many : GoodIn wsL_isActed wsL_many := goodIn_r _ [161] (by decide +kernel) (by decide +kernel)
set_option maxRecDepth 20000 in
theorem gL_isActed_L_many : GoodIn wsL_isActed (va_wsS RL 9 yL_many wsL_many) := goodIn_app (goodIn_of _ (by decide +kernel)) ggL_isActed_L_many
set_option maxRecDepth 20000 in
theorem ggL_isActed_L_steps : GoodIn wsL_isActed wsL_steps := goodIn_r _ [204, 205, 206, 3, 207, 153, 154, 155, 162, 163, 164, 159, 160, 161, 208, 209, 210, 211, 212, 213, 214, 215, 216, 217, 218, 219] (by decide +kernel) (by decide +kernel)
set_option maxRecDepth 20000 in
theorem gL_isActed_L_steps : GoodIn wsL_isActed (va_wsS RL 95 yL_steps wsL_steps) := goodIn_app (goodIn_of _ (by decide +kernel)) ggL_isActed_L_steps
set_option maxRecDepth 20000 in
theorem ggL_isActed_X6_step : GoodIn wsL_isActed wsX6_step := goodIn_r _ [223, 10, 11, 12, 13, 14, 15, 16, 17, 18, 19, 20, 21, 22, 23, 24, 25, 26, 27, 28, 29, 30, 31, 32, 33, 34, 35, 36, 37, 38, 39, 40, 41, 42, 43, 44, 8, 45, 46, 47, 48, 49, 50, 51, 52, 53, 54, 55, 56, 57, 58, 59, 60, 61, 62, 63, 64, 65, 66, 67, 68, 69, 70, 224, 225, 226, 227, 87, 88, 89, 90, 180, 117, 118, 119, 228, 229, 230, 231, 136, 137, 138, 139, 232, 233, 234, 235, 236, 237, 238, 239, 240, 241, 242, 243, 244, 245, 246, 247, 248, 249, 250, 251, 252, 253, 254, 255, 256, 257, 258, 259, 140, 141, 142, 143, 260, 113, 114, 115, 261, 262, 263, 264, 144, 145, 146, 147, 148, 149, 290, 291, 292, 293, 294, 295, 296, 297, 298, 299, 300, 301, 302, 303, 304, 305, 306, 307, 308, 309, 310, 311, 312, 313, 314, 315, 316, 317, 318, 319] (by decide +kernel) (by decide +kernel)
set_option maxRecDepth 20000 in
theorem gL_isActed_X6_step : GoodIn wsL_isActed (wsV RL 99 RX6 yX6_step wsX6_step) := goodIn_app (goodIn_of _ (by decide +kernel)) ggL_isActed_X6_step
set_option maxRecDepth 20000 in
theorem ggL_isActed_X6_again : GoodIn wsL_isActed wsX6_again := goodIn_r _ [268, 10, 11, 12, 13, 14, 15, 16, 17, 18, 19, 20, 21, 22, 23, 24, 25, 26, 27, 28, 29, 30, 31, 32, 33, 34, 35, 36, 37, 38, 39, 40, 41, 42, 43, 44, 8, 45, 46, 47, 48, 49, 50, 51, 52, 53, 54, 55, 56, 57, 58, 59, 60, 61, 62, 63, 64, 65, 66, 67, 68, 69, 70, 269, 270, 271, 272, 144, 145, 146, 147, 148, 149, 290, 291, 292, 293, 294, 295, 296, 297, 298, 299, 300, 301, 302, 303, 304, 305, 306, 307, 308, 309, 310, 311, 312, 313, 314, 315, 316, 317, 318, 319] (by decide +kernel) (by decide +kernel)
set_option maxRecDepth 20000 in
theorem gL_isActed_X6_again : GoodIn wsL_isActed (wsV RL 102 RX6 yX6_again wsX6_again) := goodIn_app (goodIn_of _ (by decide +kernel)) ggL_isActed_X6_again
set_option maxRecDepth 20000 in
theorem ggL_isActed_L_goes : GoodIn wsL_isActed wsL_goes := goodIn_r _ [158, 159, 160, 3, 161, 162, 163, 164] (by decide +kernel) (by decide +kernel)
set_option maxRecDepth 20000 in
theorem gL_isActed_L_goes : GoodIn wsL_isActed (va_wsS RL 35 yL_goes wsL_goes) := goodIn_app (goodIn_of _ (by decide +kernel)) ggL_isActed_L_goes
set_option maxRecDepth 20000 in
theorem ggL_isActed_X6_forget : GoodIn wsL_isActed wsX6_forget := goodIn_r _ [276, 10, 11, 12, 13, 14, 15, 16, 17, 18, 19, 20, 21, 22, 23, 24, 25, 26, 27, 28, 29, 30, 31, 32, 33, 34, 35, 36, 37, 38, 39, 40, 41, 42, 43, 44, 8, 45, 46, 47, 48, 49, 50, 51, 52, 53, 54, 55, 56, 57, 58, 59, 60, 61, 62, 63, 64, 65, 66, 67, 68, 69, 70, 277, 121, 122, 123, 124, 125, 126, 127, 128, 129, 130, 131, 144, 145, 146, 147, 148, 149, 290, 291, 292, 293, 294, 295, 296, 297, 298, 299, 300, 301, 302, 303, 304, 305, 306, 307, 308, 309, 310, 311, 312, 313, 314, 315, 316, 317, 318, 319] (by decide +kernel) (by decide +kernel)
set_option maxRecDepth 20000 in
theorem gL_isActed_X6_forget : GoodIn wsL_isActed (wsV RL 106 RX6 yX6_forget wsX6_forget) := goodIn_app (goodIn_of _ (by decide +kernel)) ggL_isActed_X6_forget
set_option maxRecDepth 20000 in
theorem ggL_isActed_L_isSet : GoodIn wsL_isActed wsL_isSet := goodIn_r _ [280, 211, 212, 3, 213, 214, 215, 216, 159, 160, 161, 217, 218, 219, 208, 209, 210, 162, 163, 164, 156, 157, 158, 281, 282, 283, 8, 284, 10, 11, 12, 13, 14, 15, 16, 17, 18, 19, 20, 21, 22, 23, 24, 25, 26, 27, 28, 29, 30, 31, 32, 33, 34, 35, 36, 37, 38, 39, 40, 41, 42, 43, 44, 45, 46, 47, 48, 49, 50, 51, 52, 53, 54, 55, 56, 57, 58, 59, 60, 61, 62, 63, 64, 65, 66, 67, 68, 69, 70, 285, 286, 287, 288, 289, 244, 245, 246, 247, 248, 249, 250, 251, 136, 137, 138, 139, 236, 237, 238, 239, 252, 253, 254, 255, 256, 257, 258, 259, 140, 141, 142, 143, 103, 104, 105, 106, 107, 108, 109, 110, 111, 88, 89, 90, 112, 113, 114, 115, 116, 117, 118, 119, 120, 121, 122, 123, 124, 125, 126, 127, 128, 129, 130, 131, 144, 145, 146, 147, 148, 149, 290, 291, 292, 293, 294, 295, 296, 297, 298, 299, 300, 301, 302, 303, 304, 305, 306, 307, 308, 309, 310, 311, 312, 313, 314, 315, 316, 317, 318, 319] (by decide +kernel) (by decide +kernel)
set_option maxRecDepth 20000 in
theorem gL_isActed_L_isSet : GoodIn wsL_isActed (va_wsS RL 109 yL_isSet wsL_isSet) := goodIn_app (goodIn_of _ (by decide +kernel)) ggL_isActed_L_isSet
theorem dL_isActed_0 : decode cL_isActed 0 = .ok (.iload 7, 2) := by decide +kernel
theorem dL_isActed_2 : decode cL_isActed 2 = .ok (.bipush 7, 2) := by decide +kernel
theorem dL_isActed_4 : decode cL_isActed 4 = .ok (.if_icmp .ge 28, 3) := by decide +kernel
theorem dL_isActed_7 : decode cL_isActed 7 = .ok (.aload_n 0, 1) := by decide +kernel
theorem dL_isActed_8 : decode cL_isActed 8 = .ok (.aload_n 1, 1) := by decide +kernel
theorem dL_isActed_9 : decode cL_isActed 9 = .ok (.aload_n 2, 1) := by decide +kernel
theorem dL_isActed_10 : decode cL_isActed 10 = .ok (.aload_n 3, 1) := by decide +kernel
theorem dL_isActed_11 : decode cL_isActed 11 = .ok (.aload 4, 2) := by decide +kernel
theorem dL_isActed_13 : decode cL_isActed 13 = .ok (.aload 5, 2) := by decide +kernel
theorem dL_isActed_15 : decode cL_isActed 15 = .ok (.iload 7, 2) := by decide +kernel
theorem dL_isActed_17 : decode cL_isActed 17 = .ok (.iconst 4, 1) := by decide +kernel
theorem dL_isActed_18 : decode cL_isActed 18 = .ok (.if_icmp .ge 7, 3) := by decide +kernel
theorem dL_isActed_21 : decode cL_isActed 21 = .ok (.iconst 1, 1) := by decide +kernel
theorem dL_isActed_22 : decode cL_isActed 22 = .ok (.goto 4, 3) := by decide +kernel
theorem dL_isActed_25 : decode cL_isActed 25 = .ok (.iconst 0, 1) := by decide +kernel
theorem dL_isActed_26 : decode cL_isActed 26 = .ok (.iload 8, 2) := by decide +kernel
theorem dL_isActed_28 : decode cL_isActed 28 = .ok (.invokestatic 84, 3) := by decide +kernel
theorem dL_isActed_31 : decode cL_isActed 31 = .ok (.ireturn, 1) := by decide +kernel
theorem dL_isActed_32 : decode cL_isActed 32 = .ok (.iload 7, 2) := by decide +kernel
theorem dL_isActed_34 : decode cL_isActed 34 = .ok (.bipush 9, 2) := by decide +kernel
theorem dL_isActed_36 : decode cL_isActed 36 = .ok (.if_icmp .ge 32, 3) := by decide +kernel
theorem dL_isActed_39 : decode cL_isActed 39 = .ok (.aload_n 0, 1) := by decide +kernel
theorem dL_isActed_40 : decode cL_isActed 40 = .ok (.aload_n 1, 1) := by decide +kernel
theorem dL_isActed_41 : decode cL_isActed 41 = .ok (.aload_n 2, 1) := by decide +kernel
theorem dL_isActed_42 : decode cL_isActed 42 = .ok (.aload_n 3, 1) := by decide +kernel
theorem dL_isActed_43 : decode cL_isActed 43 = .ok (.aload 4, 2) := by decide +kernel
theorem dL_isActed_45 : decode cL_isActed 45 = .ok (.aload 5, 2) := by decide +kernel
theorem dL_isActed_47 : decode cL_isActed 47 = .ok (.iload 7, 2) := by decide +kernel
theorem dL_isActed_49 : decode cL_isActed 49 = .ok (.bipush 7, 2) := by decide +kernel
theorem dL_isActed_51 : decode cL_isActed 51 = .ok (.if_icmp .ne 7, 3) := by decide +kernel
theorem dL_isActed_54 : decode cL_isActed 54 = .ok (.iconst 1, 1) := by decide +kernel
theorem dL_isActed_55 : decode cL_isActed 55 = .ok (.goto 4, 3) := by decide +kernel
theorem dL_isActed_58 : decode cL_isActed 58 = .ok (.iconst 0, 1) := by decide +kernel
theorem dL_isActed_59 : decode cL_isActed 59 = .ok (.iload 8, 2) := by decide +kernel
theorem dL_isActed_61 : decode cL_isActed 61 = .ok (.bipush 20, 2) := by decide +kernel
theorem dL_isActed_63 : decode cL_isActed 63 = .ok (.irem, 1) := by decide +kernel
theorem dL_isActed_64 : decode cL_isActed 64 = .ok (.invokestatic 88, 3) := by decide +kernel
theorem dL_isActed_67 : decode cL_isActed 67 = .ok (.ireturn, 1) := by decide +kernel
theorem dL_isActed_68 : decode cL_isActed 68 = .ok (.iload 7, 2) := by decide +kernel
theorem dL_isActed_70 : decode cL_isActed 70 = .ok (.bipush 9, 2) := by decide +kernel
theorem dL_isActed_72 : decode cL_isActed 72 = .ok (.if_icmp .ne 121, 3) := by decide +kernel
theorem dL_isActed_75 : decode cL_isActed 75 = .ok (.iload 8, 2) := by decide +kernel
theorem dL_isActed_77 : decode cL_isActed 77 = .ok (.bipush 20, 2) := by decide +kernel
theorem dL_isActed_79 : decode cL_isActed 79 = .ok (.irem, 1) := by decide +kernel
theorem dL_isActed_80 : decode cL_isActed 80 = .ok (.istore 9, 2) := by decide +kernel
theorem dL_isActed_82 : decode cL_isActed 82 = .ok (.iload 8, 2) := by decide +kernel
theorem dL_isActed_84 : decode cL_isActed 84 = .ok (.bipush 20, 2) := by decide +kernel
theorem dL_isActed_86 : decode cL_isActed 86 = .ok (.idiv, 1) := by decide +kernel
theorem dL_isActed_87 : decode cL_isActed 87 = .ok (.iconst 5, 1) := by decide +kernel
theorem dL_isActed_88 : decode cL_isActed 88 = .ok (.irem, 1) := by decide +kernel
theorem dL_isActed_89 : decode cL_isActed 89 = .ok (.istore 10, 2) := by decide +kernel
theorem dL_isActed_91 : decode cL_isActed 91 = .ok (.iload 9, 2) := by decide +kernel
theorem dL_isActed_93 : decode cL_isActed 93 = .ok (.aload_n 1, 1) := by decide +kernel
theorem dL_isActed_94 : decode cL_isActed 94 = .ok (.iconst 5, 1) := by decide +kernel
theorem dL_isActed_95 : decode cL_isActed 95 = .ok (.iaload, 1) := by decide +kernel
theorem dL_isActed_96 : decode cL_isActed 96 = .ok (.if_icmp .lt 23, 3) := by decide +kernel
theorem dL_isActed_99 : decode cL_isActed 99 = .ok (.aload_n 0, 1) := by decide +kernel
theorem dL_isActed_100 : decode cL_isActed 100 = .ok (.iload 9, 2) := by decide +kernel
theorem dL_isActed_102 : decode cL_isActed 102 = .ok (.iload 10, 2) := by decide +kernel
theorem dL_isActed_104 : decode cL_isActed 104 = .ok (.bipush 50, 2) := by decide +kernel
theorem dL_isActed_106 : decode cL_isActed 106 = .ok (.invokevirtual 91, 3) := by decide +kernel
theorem dL_isActed_109 : decode cL_isActed 109 = .ok (.iconst (-1), 1) := by decide +kernel
theorem dL_isActed_110 : decode cL_isActed 110 = .ok (.if_icmp .ne 7, 3) := by decide +kernel
theorem dL_isActed_113 : decode cL_isActed 113 = .ok (.iconst 1, 1) := by decide +kernel
theorem dL_isActed_114 : decode cL_isActed 114 = .ok (.goto 4, 3) := by decide +kernel
theorem dL_isActed_117 : decode cL_isActed 117 = .ok (.iconst 0, 1) := by decide +kernel
theorem dL_isActed_118 : decode cL_isActed 118 = .ok (.ireturn, 1) := by decide +kernel
theorem dL_isActed_119 : decode cL_isActed 119 = .ok (.aload_n 2, 1) := by decide +kernel
theorem dL_isActed_120 : decode cL_isActed 120 = .ok (.iconst 2, 1) := by decide +kernel
theorem dL_isActed_121 : decode cL_isActed 121 = .ok (.iload 9, 2) := by decide +kernel
theorem dL_isActed_123 : decode cL_isActed 123 = .ok (.imul, 1) := by decide +kernel
theorem dL_isActed_124 : decode cL_isActed 124 = .ok (.iaload, 1) := by decide +kernel
theorem dL_isActed_125 : decode cL_isActed 125 = .ok (.istore 11, 2) := by decide +kernel
theorem dL_isActed_127 : decode cL_isActed 127 = .ok (.aload_n 2, 1) := by decide +kernel
theorem dL_isActed_128 : decode cL_isActed 128 = .ok (.iconst 2, 1) := by decide +kernel
theorem dL_isActed_129 : decode cL_isActed 129 = .ok (.iload 9, 2) := by decide +kernel
theorem dL_isActed_131 : decode cL_isActed 131 = .ok (.imul, 1) := by decide +kernel
theorem dL_isActed_132 : decode cL_isActed 132 = .ok (.iload 10, 2) := by decide +kernel
theorem dL_isActed_134 : decode cL_isActed 134 = .ok (.iastore, 1) := by decide +kernel
theorem dL_isActed_135 : decode cL_isActed 135 = .ok (.aload_n 2, 1) := by decide +kernel
theorem dL_isActed_136 : decode cL_isActed 136 = .ok (.iconst 2, 1) := by decide +kernel
theorem dL_isActed_137 : decode cL_isActed 137 = .ok (.iload 9, 2) := by decide +kernel
theorem dL_isActed_139 : decode cL_isActed 139 = .ok (.imul, 1) := by decide +kernel
theorem dL_isActed_140 : decode cL_isActed 140 = .ok (.iconst 1, 1) := by decide +kernel
theorem dL_isActed_141 : decode cL_isActed 141 = .ok (.iadd, 1) := by decide +kernel
theorem dL_isActed_142 : decode cL_isActed 142 = .ok (.iload 8, 2) := by decide +kernel
theorem dL_isActed_144 : decode cL_isActed 144 = .ok (.bipush 100, 2) := by decide +kernel
theorem dL_isActed_146 : decode cL_isActed 146 = .ok (.idiv, 1) := by decide +kernel
theorem dL_isActed_147 : decode cL_isActed 147 = .ok (.bipush 100, 2) := by decide +kernel
theorem dL_isActed_149 : decode cL_isActed 149 = .ok (.irem, 1) := by decide +kernel
theorem dL_isActed_150 : decode cL_isActed 150 = .ok (.iastore, 1) := by decide +kernel
theorem dL_isActed_151 : decode cL_isActed 151 = .ok (.aload_n 1, 1) := by decide +kernel
theorem dL_isActed_152 : decode cL_isActed 152 = .ok (.aload 4, 2) := by decide +kernel
theorem dL_isActed_154 : decode cL_isActed 154 = .ok (.aload 5, 2) := by decide +kernel
theorem dL_isActed_156 : decode cL_isActed 156 = .ok (.iload 11, 2) := by decide +kernel
theorem dL_isActed_158 : decode cL_isActed 158 = .ok (.iload 10, 2) := by decide +kernel
theorem dL_isActed_160 : decode cL_isActed 160 = .ok (.invokestatic 73, 3) := by decide +kernel
theorem dL_isActed_163 : decode cL_isActed 163 = .ok (.aload_n 0, 1) := by decide +kernel
theorem dL_isActed_164 : decode cL_isActed 164 = .ok (.iload 9, 2) := by decide +kernel
theorem dL_isActed_166 : decode cL_isActed 166 = .ok (.iload 10, 2) := by decide +kernel
theorem dL_isActed_168 : decode cL_isActed 168 = .ok (.iload 8, 2) := by decide +kernel
theorem dL_isActed_170 : decode cL_isActed 170 = .ok (.bipush 100, 2) := by decide +kernel
theorem dL_isActed_172 : decode cL_isActed 172 = .ok (.idiv, 1) := by decide +kernel
theorem dL_isActed_173 : decode cL_isActed 173 = .ok (.bipush 100, 2) := by decide +kernel
theorem dL_isActed_175 : decode cL_isActed 175 = .ok (.irem, 1) := by decide +kernel
theorem dL_isActed_176 : decode cL_isActed 176 = .ok (.invokevirtual 91, 3) := by decide +kernel
theorem dL_isActed_179 : decode cL_isActed 179 = .ok (.aload 4, 2) := by decide +kernel
theorem dL_isActed_181 : decode cL_isActed 181 = .ok (.invokestatic 9, 3) := by decide +kernel
theorem dL_isActed_184 : decode cL_isActed 184 = .ok (.if_icmp .ne 7, 3) := by decide +kernel
theorem dL_isActed_187 : decode cL_isActed 187 = .ok (.iconst 1, 1) := by decide +kernel
theorem dL_isActed_188 : decode cL_isActed 188 = .ok (.goto 4, 3) := by decide +kernel
theorem dL_isActed_191 : decode cL_isActed 191 = .ok (.iconst 0, 1) := by decide +kernel
theorem dL_isActed_192 : decode cL_isActed 192 = .ok (.ireturn, 1) := by decide +kernel
theorem dL_isActed_193 : decode cL_isActed 193 = .ok (.iload 7, 2) := by decide +kernel
theorem dL_isActed_195 : decode cL_isActed 195 = .ok (.bipush 17, 2) := by decide +kernel
theorem dL_isActed_197 : decode cL_isActed 197 = .ok (.if_icmp .ge 61, 3) := by decide +kernel
theorem dL_isActed_200 : decode cL_isActed 200 = .ok (.iconst 1, 1) := by decide +kernel
theorem dL_isActed_201 : decode cL_isActed 201 = .ok (.iload 8, 2) := by decide +kernel
theorem dL_isActed_203 : decode cL_isActed 203 = .ok (.bipush 6, 2) := by decide +kernel
theorem dL_isActed_205 : decode cL_isActed 205 = .ok (.irem, 1) := by decide +kernel
theorem dL_isActed_206 : decode cL_isActed 206 = .ok (.iadd, 1) := by decide +kernel
theorem dL_isActed_207 : decode cL_isActed 207 = .ok (.istore 9, 2) := by decide +kernel
theorem dL_isActed_209 : decode cL_isActed 209 = .ok (.aload_n 1, 1) := by decide +kernel
theorem dL_isActed_210 : decode cL_isActed 210 = .ok (.bipush 7, 2) := by decide +kernel
theorem dL_isActed_212 : decode cL_isActed 212 = .ok (.iaload, 1) := by decide +kernel
theorem dL_isActed_213 : decode cL_isActed 213 = .ok (.aload_n 1, 1) := by decide +kernel
theorem dL_isActed_214 : decode cL_isActed 214 = .ok (.bipush 6, 2) := by decide +kernel
theorem dL_isActed_216 : decode cL_isActed 216 = .ok (.iaload, 1) := by decide +kernel
theorem dL_isActed_217 : decode cL_isActed 217 = .ok (.if_icmp .ne 8, 3) := by decide +kernel
theorem dL_isActed_220 : decode cL_isActed 220 = .ok (.bipush (-2), 2) := by decide +kernel
theorem dL_isActed_222 : decode cL_isActed 222 = .ok (.goto 17, 3) := by decide +kernel
theorem dL_isActed_225 : decode cL_isActed 225 = .ok (.aload_n 1, 1) := by decide +kernel
theorem dL_isActed_226 : decode cL_isActed 226 = .ok (.aload_n 2, 1) := by decide +kernel
theorem dL_isActed_227 : decode cL_isActed 227 = .ok (.aload_n 3, 1) := by decide +kernel
theorem dL_isActed_228 : decode cL_isActed 228 = .ok (.aload 4, 2) := by decide +kernel
theorem dL_isActed_230 : decode cL_isActed 230 = .ok (.aload 5, 2) := by decide +kernel
theorem dL_isActed_232 : decode cL_isActed 232 = .ok (.aload 6, 2) := by decide +kernel
theorem dL_isActed_234 : decode cL_isActed 234 = .ok (.iload 9, 2) := by decide +kernel
theorem dL_isActed_236 : decode cL_isActed 236 = .ok (.invokestatic 95, 3) := by decide +kernel
theorem dL_isActed_239 : decode cL_isActed 239 = .ok (.istore 10, 2) := by decide +kernel
theorem dL_isActed_241 : decode cL_isActed 241 = .ok (.aload_n 0, 1) := by decide +kernel
theorem dL_isActed_242 : decode cL_isActed 242 = .ok (.iload 9, 2) := by decide +kernel
theorem dL_isActed_244 : decode cL_isActed 244 = .ok (.invokevirtual 99, 3) := by decide +kernel
theorem dL_isActed_247 : decode cL_isActed 247 = .ok (.iload 10, 2) := by decide +kernel
theorem dL_isActed_249 : decode cL_isActed 249 = .ok (.if_icmp .ne 7, 3) := by decide +kernel
theorem dL_isActed_252 : decode cL_isActed 252 = .ok (.iconst 1, 1) := by decide +kernel
theorem dL_isActed_253 : decode cL_isActed 253 = .ok (.goto 4, 3) := by decide +kernel
theorem dL_isActed_256 : decode cL_isActed 256 = .ok (.iconst 0, 1) := by decide +kernel
theorem dL_isActed_257 : decode cL_isActed 257 = .ok (.ireturn, 1) := by decide +kernel
theorem dL_isActed_258 : decode cL_isActed 258 = .ok (.iload 7, 2) := by decide +kernel
theorem dL_isActed_260 : decode cL_isActed 260 = .ok (.bipush 19, 2) := by decide +kernel
theorem dL_isActed_262 : decode cL_isActed 262 = .ok (.if_icmp .ge 34, 3) := by decide +kernel
theorem dL_isActed_265 : decode cL_isActed 265 = .ok (.aload_n 1, 1) := by decide +kernel
theorem dL_isActed_266 : decode cL_isActed 266 = .ok (.bipush 8, 2) := by decide +kernel
theorem dL_isActed_268 : decode cL_isActed 268 = .ok (.iaload, 1) := by decide +kernel
theorem dL_isActed_269 : decode cL_isActed 269 = .ok (.istore 9, 2) := by decide +kernel
theorem dL_isActed_271 : decode cL_isActed 271 = .ok (.aload_n 1, 1) := by decide +kernel
theorem dL_isActed_272 : decode cL_isActed 272 = .ok (.bipush 7, 2) := by decide +kernel
theorem dL_isActed_274 : decode cL_isActed 274 = .ok (.iconst 0, 1) := by decide +kernel
theorem dL_isActed_275 : decode cL_isActed 275 = .ok (.iastore, 1) := by decide +kernel
theorem dL_isActed_276 : decode cL_isActed 276 = .ok (.aload_n 1, 1) := by decide +kernel
theorem dL_isActed_277 : decode cL_isActed 277 = .ok (.bipush 8, 2) := by decide +kernel
theorem dL_isActed_279 : decode cL_isActed 279 = .ok (.iconst 0, 1) := by decide +kernel
theorem dL_isActed_280 : decode cL_isActed 280 = .ok (.iastore, 1) := by decide +kernel
theorem dL_isActed_281 : decode cL_isActed 281 = .ok (.aload_n 0, 1) := by decide +kernel
theorem dL_isActed_282 : decode cL_isActed 282 = .ok (.invokevirtual 102, 3) := by decide +kernel
theorem dL_isActed_285 : decode cL_isActed 285 = .ok (.iload 9, 2) := by decide +kernel
theorem dL_isActed_287 : decode cL_isActed 287 = .ok (.if_icmp .ne 7, 3) := by decide +kernel
theorem dL_isActed_290 : decode cL_isActed 290 = .ok (.iconst 1, 1) := by decide +kernel
theorem dL_isActed_291 : decode cL_isActed 291 = .ok (.goto 4, 3) := by decide +kernel
theorem dL_isActed_294 : decode cL_isActed 294 = .ok (.iconst 0, 1) := by decide +kernel
theorem dL_isActed_295 : decode cL_isActed 295 = .ok (.ireturn, 1) := by decide +kernel
theorem dL_isActed_296 : decode cL_isActed 296 = .ok (.iload 7, 2) := by decide +kernel
theorem dL_isActed_298 : decode cL_isActed 298 = .ok (.bipush 19, 2) := by decide +kernel
theorem dL_isActed_300 : decode cL_isActed 300 = .ok (.if_icmp .ne 36, 3) := by decide +kernel
theorem dL_isActed_303 : decode cL_isActed 303 = .ok (.iload 8, 2) := by decide +kernel
theorem dL_isActed_305 : decode cL_isActed 305 = .ok (.iconst 3, 1) := by decide +kernel
theorem dL_isActed_306 : decode cL_isActed 306 = .ok (.irem, 1) := by decide +kernel
theorem dL_isActed_307 : decode cL_isActed 307 = .ok (.ifCond .ne 29, 3) := by decide +kernel
theorem dL_isActed_310 : decode cL_isActed 310 = .ok (.aload_n 1, 1) := by decide +kernel
theorem dL_isActed_311 : decode cL_isActed 311 = .ok (.aload 4, 2) := by decide +kernel
theorem dL_isActed_313 : decode cL_isActed 313 = .ok (.aload 5, 2) := by decide +kernel
theorem dL_isActed_315 : decode cL_isActed 315 = .ok (.iconst (-1), 1) := by decide +kernel
theorem dL_isActed_316 : decode cL_isActed 316 = .ok (.invokestatic 35, 3) := by decide +kernel
theorem dL_isActed_319 : decode cL_isActed 319 = .ok (.istore 9, 2) := by decide +kernel
theorem dL_isActed_321 : decode cL_isActed 321 = .ok (.aload_n 0, 1) := by decide +kernel
theorem dL_isActed_322 : decode cL_isActed 322 = .ok (.invokevirtual 106, 3) := by decide +kernel
theorem dL_isActed_325 : decode cL_isActed 325 = .ok (.iload 9, 2) := by decide +kernel
theorem dL_isActed_327 : decode cL_isActed 327 = .ok (.if_icmp .ne 7, 3) := by decide +kernel
theorem dL_isActed_330 : decode cL_isActed 330 = .ok (.iconst 1, 1) := by decide +kernel
theorem dL_isActed_331 : decode cL_isActed 331 = .ok (.goto 4, 3) := by decide +kernel
theorem dL_isActed_334 : decode cL_isActed 334 = .ok (.iconst 0, 1) := by decide +kernel
theorem dL_isActed_335 : decode cL_isActed 335 = .ok (.ireturn, 1) := by decide +kernel
theorem dL_isActed_336 : decode cL_isActed 336 = .ok (.aload_n 0, 1) := by decide +kernel
theorem dL_isActed_337 : decode cL_isActed 337 = .ok (.aload_n 1, 1) := by decide +kernel
theorem dL_isActed_338 : decode cL_isActed 338 = .ok (.aload_n 2, 1) := by decide +kernel
theorem dL_isActed_339 : decode cL_isActed 339 = .ok (.aload 4, 2) := by decide +kernel
theorem dL_isActed_341 : decode cL_isActed 341 = .ok (.aload 5, 2) := by decide +kernel
theorem dL_isActed_343 : decode cL_isActed 343 = .ok (.aload 6, 2) := by decide +kernel
theorem dL_isActed_345 : decode cL_isActed 345 = .ok (.iload 8, 2) := by decide +kernel
theorem dL_isActed_347 : decode cL_isActed 347 = .ok (.iconst 5, 1) := by decide +kernel
theorem dL_isActed_348 : decode cL_isActed 348 = .ok (.irem, 1) := by decide +kernel
theorem dL_isActed_349 : decode cL_isActed 349 = .ok (.iload 8, 2) := by decide +kernel
theorem dL_isActed_351 : decode cL_isActed 351 = .ok (.iconst 5, 1) := by decide +kernel
theorem dL_isActed_352 : decode cL_isActed 352 = .ok (.idiv, 1) := by decide +kernel
theorem dL_isActed_353 : decode cL_isActed 353 = .ok (.invokestatic 109, 3) := by decide +kernel
theorem dL_isActed_356 : decode cL_isActed 356 = .ok (.ireturn, 1) := by decide +kernel
set_option maxRecDepth 20000 in
theorem ggL_law_X6_init : GoodIn wsL_law wsX6_init := goodIn_r _ [7, 8, 9, 10, 11, 12, 13, 14, 15, 16, 17, 18, 19, 20, 21, 22, 23, 24, 25, 26, 27, 28, 29, 30, 31, 32, 33, 34, 35, 36, 37, 38, 39, 40, 41, 42, 43, 44, 45, 46, 47, 48, 49, 3, 50, 51, 52, 53, 54, 55, 56, 57, 58, 59, 60, 61, 62, 63, 64, 65, 66, 67, 68, 69, 70, 71, 72, 73, 74, 75, 76, 77, 78, 79, 80, 81, 82, 466, 467, 468, 469, 470, 471, 472, 473, 457, 458, 459, 460, 461, 462, 463, 464, 465, 474, 475, 476, 477, 478, 479, 480, 481, 482, 483, 484, 485, 486, 487, 488, 489, 490, 491, 492, 493, 494, 495] (by decide +kernel) (by decide +kernel)
set_option maxRecDepth 20000 in
theorem gL_law_X6_init : GoodIn wsL_law (wsX6_init) := ggL_law_X6_init
set_option maxRecDepth 20000 in
theorem ggL_law_L_cell : GoodIn wsL_law wsL_cell := goodIn_r _ [86, 87] (by decide +kernel) (by decide +kernel)
set_option maxRecDepth 20000 in
theorem gL_law_L_cell : GoodIn wsL_law (va_wsS RL 114 yL_cell wsL_cell) := goodIn_app (goodIn_of _ (by decide +kernel)) ggL_law_L_cell
set_option maxRecDepth 20000 in
theorem ggL_law_L_isActed : GoodIn wsL_law wsL_isActed := goodIn_r _ [90, 91, 92, 85, 93, 94, 95, 96, 2, 97, 20, 14, 98, 99, 100, 19, 101, 102, 103, 104, 105, 106, 76, 107, 108, 109, 13, 110, 32, 33, 37, 41, 49, 50, 111, 112, 113, 114, 115, 31, 116, 55, 56, 117, 118, 119, 120, 121, 122, 123, 124, 125, 126, 127, 128, 129, 130, 36, 131, 61, 62, 63, 132, 133, 134, 40, 135, 68, 69, 70, 136, 137, 138, 139, 140, 141, 142, 143, 144, 145, 146, 147, 148, 149, 150, 151, 152, 153, 154, 155, 156, 157, 158, 159, 160, 161, 162, 163, 164, 165, 166, 167, 168, 169, 170, 171, 172, 173, 174, 175, 176, 177, 178, 179, 180, 181, 182, 183, 184, 185, 186, 187, 188, 189, 190, 191, 192, 193, 194, 195, 196, 197, 198, 199, 200, 201, 202, 203, 204, 205, 206, 207, 208, 209, 210, 211, 212, 213, 214, 215, 216, 217, 218, 219, 220, 221, 222, 223, 224, 225, 226, 227, 228, 229, 230, 231, 232, 233, 234, 235, 236, 237, 238, 239, 240, 241, 242, 243, 244, 245, 246, 247, 248, 249, 250, 251, 252, 253, 254, 255, 256, 257, 258, 259, 260, 261, 262, 263, 264, 265, 266, 267, 268, 269, 270, 271, 272, 273, 274, 275, 276, 277, 278, 279, 280, 281, 282, 283, 284, 285, 286, 287, 288, 289, 290, 291, 292, 293, 294, 295, 296, 297, 298, 299, 300, 301, 302, 303, 304, 305, 306, 307, 308, 309, 310, 311, 312, 313, 314, 315, 316, 317, 318, 319, 320, 321, 322, 323, 324, 325, 326, 327, 328, 329, 330, 331, 332, 333, 334, 335, 336, 337, 338, 339, 340, 341, 342, 343, 344, 345, 346, 347, 348, 349, 350, 351, 352, 353, 354, 355, 457, 458, 459, 460, 461, 462, 463, 464, 465, 474, 475, 476, 466, 467, 468, 469, 470, 471, 472, 473, 486, 487, 488, 489, 490, 491, 492, 493, 494, 495] (by decide +kernel) (by decide +kernel)
set_option maxRecDepth 20000 in
theorem gL_law_L_isActed : GoodIn wsL_law (va_wsS RL 118 yL_isActed wsL_isActed) := goodIn_app (goodIn_of _ (by decide +kernel)) ggL_law_L_isActed
set_option maxRecDepth 20000 in
theorem ggL_law_L_areTold : GoodIn wsL_law wsL_areTold := goodIn_r _ [358, 3, 359, 360, 361, 2, 362, 14, 24, 20, 363, 150, 151, 13, 152, 33, 32, 364, 154, 155, 31, 156, 117, 365, 366, 367, 368, 41, 369, 195, 196, 40, 197, 68, 370, 315, 316, 317, 37, 202, 203, 204, 205, 302, 303, 304, 36, 305, 61, 371, 372, 373, 374, 111, 375, 376, 377, 378, 112, 379, 380, 381, 382, 49, 383, 384, 385, 23, 386, 387, 388, 389, 390, 19, 391, 214, 146, 147, 148, 392, 393, 394, 395, 50, 225, 226, 85, 227, 283, 284, 285, 274, 275, 276, 396, 397, 398, 399, 280, 281, 282, 400, 401, 402, 403, 143, 144, 145, 404, 405, 406, 407, 408, 409, 410, 411, 412, 322, 323, 324, 325, 70, 69, 413, 414, 415, 416, 417, 418, 419, 420, 62, 63, 421, 228, 229, 230, 219, 220, 221, 422, 423, 424, 425, 457, 458, 459, 460, 461, 462, 463, 464, 465, 466, 467, 468, 469, 470, 471, 472, 473, 486, 487, 488, 492, 493, 494, 495, 489, 490, 491, 477, 478, 479, 480, 481, 482, 483, 484, 485, 474, 475, 476] (by decide +kernel) (by decide +kernel)
set_option maxRecDepth 20000 in
theorem gL_law_L_areTold : GoodIn wsL_law (va_wsS RL 122 yL_areTold wsL_areTold) := goodIn_app (goodIn_of _ (by decide +kernel)) ggL_law_L_areTold
set_option maxRecDepth 20000 in
theorem ggL_law_L_areRows : GoodIn wsL_law wsL_areRows := goodIn_r _ [428, 429, 430, 431, 2, 432, 14, 363, 150, 151, 13, 152, 33, 32, 433, 243, 244, 31, 245, 117, 146, 147, 148, 434, 183, 184, 185, 55, 435, 179, 180, 181, 56, 436, 437, 438, 439, 41, 246, 202, 203, 204, 40, 205, 68, 326, 440, 441, 442, 443, 49, 444, 255, 256, 257, 111, 422, 423, 424, 425, 143, 144, 145, 413, 414, 415, 416, 37, 417, 418, 419, 36, 420, 61, 62, 63, 421, 303, 304, 305, 400, 401, 402, 403, 365, 366, 367, 368, 404, 405, 406, 407, 408, 379, 380, 381, 382, 409, 410, 411, 412, 322, 323, 324, 325, 70, 69, 219, 220, 85, 221, 274, 275, 276, 445, 446, 447, 448, 449, 450, 451, 452, 153, 154, 155, 156, 327, 328, 329, 330, 453, 454, 455, 456, 457, 458, 459, 460, 461, 462, 463, 464, 465, 466, 467, 468, 469, 470, 471, 472, 473, 486, 487, 488, 492, 493, 494, 495, 489, 490, 491] (by decide +kernel) (by decide +kernel)
set_option maxRecDepth 20000 in
theorem gL_law_L_areRows : GoodIn wsL_law (va_wsS RL 126 yL_areRows wsL_areRows) := goodIn_app (goodIn_of _ (by decide +kernel)) ggL_law_L_areRows
theorem dL_law_0 : decode cL_law 0 = .ok (.new 47, 3) := by decide +kernel
theorem dL_law_3 : decode cL_law 3 = .ok (.dup, 1) := by decide +kernel
theorem dL_law_4 : decode cL_law 4 = .ok (.invokespecial 113, 3) := by decide +kernel
theorem dL_law_7 : decode cL_law 7 = .ok (.astore_n 1, 1) := by decide +kernel
theorem dL_law_8 : decode cL_law 8 = .ok (.bipush 16, 2) := by decide +kernel
theorem dL_law_10 : decode cL_law 10 = .ok (.newarray .int, 2) := by decide +kernel
theorem dL_law_12 : decode cL_law 12 = .ok (.astore_n 2, 1) := by decide +kernel
theorem dL_law_13 : decode cL_law 13 = .ok (.bipush 44, 2) := by decide +kernel
theorem dL_law_15 : decode cL_law 15 = .ok (.newarray .int, 2) := by decide +kernel
theorem dL_law_17 : decode cL_law 17 = .ok (.astore_n 3, 1) := by decide +kernel
theorem dL_law_18 : decode cL_law 18 = .ok (.bipush 44, 2) := by decide +kernel
theorem dL_law_20 : decode cL_law 20 = .ok (.newarray .int, 2) := by decide +kernel
theorem dL_law_22 : decode cL_law 22 = .ok (.astore 4, 2) := by decide +kernel
theorem dL_law_24 : decode cL_law 24 = .ok (.bipush 10, 2) := by decide +kernel
theorem dL_law_26 : decode cL_law 26 = .ok (.newarray .int, 2) := by decide +kernel
theorem dL_law_28 : decode cL_law 28 = .ok (.astore 5, 2) := by decide +kernel
theorem dL_law_30 : decode cL_law 30 = .ok (.bipush 10, 2) := by decide +kernel
theorem dL_law_32 : decode cL_law 32 = .ok (.newarray .int, 2) := by decide +kernel
theorem dL_law_34 : decode cL_law 34 = .ok (.astore 6, 2) := by decide +kernel
theorem dL_law_36 : decode cL_law 36 = .ok (.bipush 10, 2) := by decide +kernel
theorem dL_law_38 : decode cL_law 38 = .ok (.newarray .int, 2) := by decide +kernel
theorem dL_law_40 : decode cL_law 40 = .ok (.astore 7, 2) := by decide +kernel
theorem dL_law_42 : decode cL_law 42 = .ok (.aload_n 2, 1) := by decide +kernel
theorem dL_law_43 : decode cL_law 43 = .ok (.iconst 0, 1) := by decide +kernel
theorem dL_law_44 : decode cL_law 44 = .ok (.bipush 12, 2) := by decide +kernel
theorem dL_law_46 : decode cL_law 46 = .ok (.iastore, 1) := by decide +kernel
theorem dL_law_47 : decode cL_law 47 = .ok (.aload_n 2, 1) := by decide +kernel
theorem dL_law_48 : decode cL_law 48 = .ok (.iconst 4, 1) := by decide +kernel
theorem dL_law_49 : decode cL_law 49 = .ok (.bipush 99, 2) := by decide +kernel
theorem dL_law_51 : decode cL_law 51 = .ok (.iastore, 1) := by decide +kernel
theorem dL_law_52 : decode cL_law 52 = .ok (.iconst 0, 1) := by decide +kernel
theorem dL_law_53 : decode cL_law 53 = .ok (.istore 8, 2) := by decide +kernel
theorem dL_law_55 : decode cL_law 55 = .ok (.iload 8, 2) := by decide +kernel
theorem dL_law_57 : decode cL_law 57 = .ok (.bipush 10, 2) := by decide +kernel
theorem dL_law_59 : decode cL_law 59 = .ok (.if_icmp .ge 21, 3) := by decide +kernel
theorem dL_law_62 : decode cL_law 62 = .ok (.aload 5, 2) := by decide +kernel
theorem dL_law_64 : decode cL_law 64 = .ok (.iload 8, 2) := by decide +kernel
theorem dL_law_66 : decode cL_law 66 = .ok (.iconst (-1), 1) := by decide +kernel
theorem dL_law_67 : decode cL_law 67 = .ok (.iastore, 1) := by decide +kernel
theorem dL_law_68 : decode cL_law 68 = .ok (.aload 6, 2) := by decide +kernel
theorem dL_law_70 : decode cL_law 70 = .ok (.iload 8, 2) := by decide +kernel
theorem dL_law_72 : decode cL_law 72 = .ok (.iconst (-1), 1) := by decide +kernel
theorem dL_law_73 : decode cL_law 73 = .ok (.iastore, 1) := by decide +kernel
theorem dL_law_74 : decode cL_law 74 = .ok (.iinc 8 1, 3) := by decide +kernel
theorem dL_law_77 : decode cL_law 77 = .ok (.goto (-22), 3) := by decide +kernel
theorem dL_law_80 : decode cL_law 80 = .ok (.iconst 0, 1) := by decide +kernel
theorem dL_law_81 : decode cL_law 81 = .ok (.istore 8, 2) := by decide +kernel
theorem dL_law_83 : decode cL_law 83 = .ok (.iload 8, 2) := by decide +kernel
theorem dL_law_85 : decode cL_law 85 = .ok (.bipush 62, 2) := by decide +kernel
theorem dL_law_87 : decode cL_law 87 = .ok (.if_icmp .ge 94, 3) := by decide +kernel
theorem dL_law_90 : decode cL_law 90 = .ok (.aload_n 0, 1) := by decide +kernel
theorem dL_law_91 : decode cL_law 91 = .ok (.iload 8, 2) := by decide +kernel
theorem dL_law_93 : decode cL_law 93 = .ok (.invokestatic 114, 3) := by decide +kernel
theorem dL_law_96 : decode cL_law 96 = .ok (.ldc 8, 2) := by decide +kernel
theorem dL_law_98 : decode cL_law 98 = .ok (.iand, 1) := by decide +kernel
theorem dL_law_99 : decode cL_law 99 = .ok (.istore 9, 2) := by decide +kernel
theorem dL_law_101 : decode cL_law 101 = .ok (.aload_n 1, 1) := by decide +kernel
theorem dL_law_102 : decode cL_law 102 = .ok (.aload_n 2, 1) := by decide +kernel
theorem dL_law_103 : decode cL_law 103 = .ok (.aload_n 3, 1) := by decide +kernel
theorem dL_law_104 : decode cL_law 104 = .ok (.aload 4, 2) := by decide +kernel
theorem dL_law_106 : decode cL_law 106 = .ok (.aload 5, 2) := by decide +kernel
theorem dL_law_108 : decode cL_law 108 = .ok (.aload 6, 2) := by decide +kernel
theorem dL_law_110 : decode cL_law 110 = .ok (.aload 7, 2) := by decide +kernel
theorem dL_law_112 : decode cL_law 112 = .ok (.iload 8, 2) := by decide +kernel
theorem dL_law_114 : decode cL_law 114 = .ok (.bipush 10, 2) := by decide +kernel
theorem dL_law_116 : decode cL_law 116 = .ok (.if_icmp .ge 11, 3) := by decide +kernel
theorem dL_law_119 : decode cL_law 119 = .ok (.iload 9, 2) := by decide +kernel
theorem dL_law_121 : decode cL_law 121 = .ok (.bipush 7, 2) := by decide +kernel
theorem dL_law_123 : decode cL_law 123 = .ok (.irem, 1) := by decide +kernel
theorem dL_law_124 : decode cL_law 124 = .ok (.goto 8, 3) := by decide +kernel
theorem dL_law_127 : decode cL_law 127 = .ok (.iload 9, 2) := by decide +kernel
theorem dL_law_129 : decode cL_law 129 = .ok (.bipush 21, 2) := by decide +kernel
theorem dL_law_131 : decode cL_law 131 = .ok (.irem, 1) := by decide +kernel
theorem dL_law_132 : decode cL_law 132 = .ok (.iload 9, 2) := by decide +kernel
theorem dL_law_134 : decode cL_law 134 = .ok (.bipush 21, 2) := by decide +kernel
theorem dL_law_136 : decode cL_law 136 = .ok (.idiv, 1) := by decide +kernel
theorem dL_law_137 : decode cL_law 137 = .ok (.invokestatic 118, 3) := by decide +kernel
theorem dL_law_140 : decode cL_law 140 = .ok (.ifCond .eq 33, 3) := by decide +kernel
theorem dL_law_143 : decode cL_law 143 = .ok (.aload_n 1, 1) := by decide +kernel
theorem dL_law_144 : decode cL_law 144 = .ok (.aload_n 2, 1) := by decide +kernel
theorem dL_law_145 : decode cL_law 145 = .ok (.aload_n 3, 1) := by decide +kernel
theorem dL_law_146 : decode cL_law 146 = .ok (.aload 4, 2) := by decide +kernel
theorem dL_law_148 : decode cL_law 148 = .ok (.aload 5, 2) := by decide +kernel
theorem dL_law_150 : decode cL_law 150 = .ok (.aload 6, 2) := by decide +kernel
theorem dL_law_152 : decode cL_law 152 = .ok (.aload 7, 2) := by decide +kernel
theorem dL_law_154 : decode cL_law 154 = .ok (.invokestatic 122, 3) := by decide +kernel
theorem dL_law_157 : decode cL_law 157 = .ok (.ifCond .eq 16, 3) := by decide +kernel
theorem dL_law_160 : decode cL_law 160 = .ok (.aload_n 1, 1) := by decide +kernel
theorem dL_law_161 : decode cL_law 161 = .ok (.aload_n 2, 1) := by decide +kernel
theorem dL_law_162 : decode cL_law 162 = .ok (.aload_n 3, 1) := by decide +kernel
theorem dL_law_163 : decode cL_law 163 = .ok (.aload 4, 2) := by decide +kernel
theorem dL_law_165 : decode cL_law 165 = .ok (.aload 5, 2) := by decide +kernel
theorem dL_law_167 : decode cL_law 167 = .ok (.invokestatic 126, 3) := by decide +kernel
theorem dL_law_170 : decode cL_law 170 = .ok (.ifCond .ne 5, 3) := by decide +kernel
theorem dL_law_173 : decode cL_law 173 = .ok (.iconst 0, 1) := by decide +kernel
theorem dL_law_174 : decode cL_law 174 = .ok (.ireturn, 1) := by decide +kernel
theorem dL_law_175 : decode cL_law 175 = .ok (.iinc 8 1, 3) := by decide +kernel
theorem dL_law_178 : decode cL_law 178 = .ok (.goto (-95), 3) := by decide +kernel
theorem dL_law_181 : decode cL_law 181 = .ok (.iconst 1, 1) := by decide +kernel
theorem dL_law_182 : decode cL_law 182 = .ok (.ireturn, 1) := by decide +kernel

set_option maxRecDepth 20000 in
theorem ggL_isActed_X6_forget : GoodIn wsL_isActed wsX6_forget := goodIn_r _ [276, 10, 11, 12, 13, 14, 15, 16, 17, 18, 19, 20, 21, 22, 23, 24, 25, 26, 27, 28, 29, 30, 31, 32, 33, 34, 35, 36, 37, 38, 39, 40, 41, 42, 43, 44, 8, 45, 46, 47, 48, 49, 50, 51, 52, 53, 54, 55, 56, 57, 58, 59, 60, 61, 62, 63, 64, 65, 66, 67, 68, 69, 70, 277, 121, 122, 123, 124, 125, 126, 127, 128, 129, 130, 131, 144, 145, 146, 147, 148, 149, 290, 291, 292, 293, 294, 295, 296, 297, 298, 299, 300, 301, 302, 303, 304, 305, 306, 307, 308, 309, 310, 311, 312, 313, 314, 315, 316, 317, 318, 319] (by decide +kernel) (by decide +kernel)
set_option maxRecDepth 20000 in
theorem gL_isActed_X6_forget : GoodIn wsL_isActed (wsV RL 106 RX6 yX6_forget wsX6_forget) := goodIn_app (goodIn_of _ (by decide +kernel)) ggL_isActed_X6_forget
set_option maxRecDepth 20000 in
theorem ggL_isActed_L_isSet : GoodIn wsL_isActed wsL_isSet := goodIn_r _ [280, 211, 212, 3, 213, 214, 215, 216, 159, 160, 161, 217, 218, 219, 208, 209, 210, 162, 163, 164, 156, 157, 158, 281, 282, 283, 8, 284, 10, 11, 12, 13, 14, 15, 16, 17, 18, 19, 20, 21, 22, 23, 24, 25, 26, 27, 28, 29, 30, 31, 32, 33, 34, 35, 36, 37, 38, 39, 40, 41, 42, 43, 44, 45, 46, 47, 48, 49, 50, 51, 52, 53, 54, 55, 56, 57, 58, 59, 60, 61, 62, 63, 64, 65, 66, 67, 68, 69, 70, 285, 286, 287, 288, 289, 244, 245, 246, 247, 248, 249, 250, 251, 136, 137, 138, 139, 236, 237, 238, 239, 252, 253, 254, 255, 256, 257, 258, 259, 140, 141, 142, 143, 103, 104, 105, 106, 107, 108, 109, 110, 111, 88, 89, 90, 112, 113, 114, 115, 116, 117, 118, 119, 120, 121, 122, 123, 124, 125, 126, 127, 128, 129, 130, 131, 144, 145, 146, 147, 148, 149, 290, 291, 292, 293, 294, 295, 296, 297, 298, 299, 300, 301, 302, 303, 304, 305, 306, 307, 308, 309, 310, 311, 312, 313, 314, 315, 316, 317, 318, 319] (by decide +kernel) (by decide +kernel)
set_option maxRecDepth 20000 in
theorem gL_isActed_L_isSet : GoodIn wsL_isActed (va_wsS RL 109 yL_isSet wsL_isSet) := goodIn_app (goodIn_of _ (by decide +kernel)) ggL_isActed_L_isSet
theorem dL_isActed_0 : decode cL_isActed 0 = .ok (.iload 7, 2) := by decide +kernel
theorem dL_isActed_2 : decode cL_isActed 2 = .ok (.bipush 7, 2) := by decide +kernel
theorem dL_isActed_4 : decode cL_isActed 4 = .ok (.if_icmp .ge 28, 3) := by decide +kernel
theorem dL_isActed_7 : decode cL_isActed 7 = .ok (.aload_n 0, 1) := by decide +kernel
theorem dL_isActed_8 : decode cL_isActed 8 = .ok (.aload_n 1, 1) := by decide +kernel
theorem dL_isActed_9 : decode cL_isActed 9 = .ok (.aload_n 2, 1) := by decide +kernel
theorem dL_isActed_10 : decode cL_isActed 10 = .ok (.aload_n 3, 1) := by decide +kernel
theorem dL_isActed_11 : decode cL_isActed 11 = .ok (.aload 4, 2) := by decide +kernel
theorem dL_isActed_13 : decode cL_isActed 13 = .ok (.aload 5, 2) := by decide +kernel
theorem dL_isActed_15 : decode cL_isActed 15 = .ok (.iload 7, 2) := by decide +kernel
theorem dL_isActed_17 : decode cL_isActed 17 = .ok (.iconst 4, 1) := by decide +kernel
theorem dL_isActed_18 : decode cL_isActed 18 = .ok (.if_icmp .ge 7, 3) := by decide +kernel
theorem dL_isActed_21 : decode cL_isActed 21 = .ok (.iconst 1, 1) := by decide +kernel
theorem dL_isActed_22 : decode cL_isActed 22 = .ok (.goto 4, 3) := by decide +kernel
theorem dL_isActed_25 : decode cL_isActed 25 = .ok (.iconst 0, 1) := by decide +kernel
theorem dL_isActed_26 : decode cL_isActed 26 = .ok (.iload 8, 2) := by decide +kernel
theorem dL_isActed_28 : decode cL_isActed 28 = .ok (.invokestatic 84, 3) := by decide +kernel
theorem dL_isActed_31 : decode cL_isActed 31 = .ok (.ireturn, 1) := by decide +kernel
theorem dL_isActed_32 : decode cL_isActed 32 = .ok (.iload 7, 2) := by decide +kernel
theorem dL_isActed_34 : decode cL_isActed 34 = .ok (.bipush 9, 2) := by decide +kernel
theorem dL_isActed_36 : decode cL_isActed 36 = .ok (.if_icmp .ge 32, 3) := by decide +kernel
theorem dL_isActed_39 : decode cL_isActed 39 = .ok (.aload_n 0, 1) := by decide +kernel
theorem dL_isActed_40 : decode cL_isActed 40 = .ok (.aload_n 1, 1) := by decide +kernel
theorem dL_isActed_41 : decode cL_isActed 41 = .ok (.aload_n 2, 1) := by decide +kernel
theorem dL_isActed_42 : decode cL_isActed 42 = .ok (.aload_n 3, 1) := by decide +kernel
theorem dL_isActed_43 : decode cL_isActed 43 = .ok (.aload 4, 2) := by decide +kernel
theorem dL_isActed_45 : decode cL_isActed 45 = .ok (.aload 5, 2) := by decide +kernel
theorem dL_isActed_47 : decode cL_isActed 47 = .ok (.iload 7, 2) := by decide +kernel
theorem dL_isActed_49 : decode cL_isActed 49 = .ok (.bipush 7, 2) := by decide +kernel
theorem dL_isActed_51 : decode cL_isActed 51 = .ok (.if_icmp .ne 7, 3) := by decide +kernel
theorem dL_isActed_54 : decode cL_isActed 54 = .ok (.iconst 1, 1) := by decide +kernel
theorem dL_isActed_55 : decode cL_isActed 55 = .ok (.goto 4, 3) := by decide +kernel
theorem dL_isActed_58 : decode cL_isActed 58 = .ok (.iconst 0, 1) := by decide +kernel
theorem dL_isActed_59 : decode cL_isActed 59 = .ok (.iload 8, 2) := by decide +kernel
theorem dL_isActed_61 : decode cL_isActed 61 = .ok (.bipush 20, 2) := by decide +kernel
theorem dL_isActed_63 : decode cL_isActed 63 = .ok (.irem, 1) := by decide +kernel
theorem dL_isActed_64 : decode cL_isActed 64 = .ok (.invokestatic 88, 3) := by decide +kernel
theorem dL_isActed_67 : decode cL_isActed 67 = .ok (.ireturn, 1) := by decide +kernel
theorem dL_isActed_68 : decode cL_isActed 68 = .ok (.iload 7, 2) := by decide +kernel
theorem dL_isActed_70 : decode cL_isActed 70 = .ok (.bipush 9, 2) := by decide +kernel
theorem dL_isActed_72 : decode cL_isActed 72 = .ok (.if_icmp .ne 121, 3) := by decide +kernel
theorem dL_isActed_75 : decode cL_isActed 75 = .ok (.iload 8, 2) := by decide +kernel
theorem dL_isActed_77 : decode cL_isActed 77 = .ok (.bipush 20, 2) := by decide +kernel
theorem dL_isActed_79 : decode cL_isActed 79 = .ok (.irem, 1) := by decide +kernel
theorem dL_isActed_80 : decode cL_isActed 80 = .ok (.istore 9, 2) := by decide +kernel
theorem dL_isActed_82 : decode cL_isActed 82 = .ok (.iload 8, 2) := by decide +kernel
theorem dL_isActed_84 : decode cL_isActed 84 = .ok (.bipush 20, 2) := by decide +kernel
theorem dL_isActed_86 : decode cL_isActed 86 = .ok (.idiv, 1) := by decide +kernel
theorem dL_isActed_87 : decode cL_isActed 87 = .ok (.iconst 5, 1) := by decide +kernel
theorem dL_isActed_88 : decode cL_isActed 88 = .ok (.irem, 1) := by decide +kernel
theorem dL_isActed_89 : decode cL_isActed 89 = .ok (.istore 10, 2) := by decide +kernel
theorem dL_isActed_91 : decode cL_isActed 91 = .ok (.iload 9, 2) := by decide +kernel
theorem dL_isActed_93 : decode cL_isActed 93 = .ok (.aload_n 1, 1) := by decide +kernel
theorem dL_isActed_94 : decode cL_isActed 94 = .ok (.iconst 5, 1) := by decide +kernel
theorem dL_isActed_95 : decode cL_isActed 95 = .ok (.iaload, 1) := by decide +kernel
theorem dL_isActed_96 : decode cL_isActed 96 = .ok (.if_icmp .lt 23, 3) := by decide +kernel
theorem dL_isActed_99 : decode cL_isActed 99 = .ok (.aload_n 0, 1) := by decide +kernel
theorem dL_isActed_100 : decode cL_isActed 100 = .ok (.iload 9, 2) := by decide +kernel
theorem dL_isActed_102 : decode cL_isActed 102 = .ok (.iload 10, 2) := by decide +kernel
theorem dL_isActed_104 : decode cL_isActed 104 = .ok (.bipush 50, 2) := by decide +kernel
theorem dL_isActed_106 : decode cL_isActed 106 = .ok (.invokevirtual 91, 3) := by decide +kernel
theorem dL_isActed_109 : decode cL_isActed 109 = .ok (.iconst (-1), 1) := by decide +kernel
theorem dL_isActed_110 : decode cL_isActed 110 = .ok (.if_icmp .ne 7, 3) := by decide +kernel
theorem dL_isActed_113 : decode cL_isActed 113 = .ok (.iconst 1, 1) := by decide +kernel
theorem dL_isActed_114 : decode cL_isActed 114 = .ok (.goto 4, 3) := by decide +kernel
theorem dL_isActed_117 : decode cL_isActed 117 = .ok (.iconst 0, 1) := by decide +kernel
theorem dL_isActed_118 : decode cL_isActed 118 = .ok (.ireturn, 1) := by decide +kernel
theorem dL_isActed_119 : decode cL_isActed 119 = .ok (.aload_n 2, 1) := by decide +kernel
theorem dL_isActed_120 : decode cL_isActed 120 = .ok (.iconst 2, 1) := by decide +kernel
theorem dL_isActed_121 : decode cL_isActed 121 = .ok (.iload 9, 2) := by decide +kernel
theorem dL_isActed_123 : decode cL_isActed 123 = .ok (.imul, 1) := by decide +kernel
theorem dL_isActed_124 : decode cL_isActed 124 = .ok (.iaload, 1) := by decide +kernel
theorem dL_isActed_125 : decode cL_isActed 125 = .ok (.istore 11, 2) := by decide +kernel
theorem dL_isActed_127 : decode cL_isActed 127 = .ok (.aload_n 2, 1) := by decide +kernel
theorem dL_isActed_128 : decode cL_isActed 128 = .ok (.iconst 2, 1) := by decide +kernel
theorem dL_isActed_129 : decode cL_isActed 129 = .ok (.iload 9, 2) := by decide +kernel
theorem dL_isActed_131 : decode cL_isActed 131 = .ok (.imul, 1) := by decide +kernel
theorem dL_isActed_132 : decode cL_isActed 132 = .ok (.iload 10, 2) := by decide +kernel
theorem dL_isActed_134 : decode cL_isActed 134 = .ok (.iastore, 1) := by decide +kernel
theorem dL_isActed_135 : decode cL_isActed 135 = .ok (.aload_n 2, 1) := by decide +kernel
theorem dL_isActed_136 : decode cL_isActed 136 = .ok (.iconst 2, 1) := by decide +kernel
theorem dL_isActed_137 : decode cL_isActed 137 = .ok (.iload 9, 2) := by decide +kernel
theorem dL_isActed_139 : decode cL_isActed 139 = .ok (.imul, 1) := by decide +kernel
theorem dL_isActed_140 : decode cL_isActed 140 = .ok (.iconst 1, 1) := by decide +kernel
theorem dL_isActed_141 : decode cL_isActed 141 = .ok (.iadd, 1) := by decide +kernel
theorem dL_isActed_142 : decode cL_isActed 142 = .ok (.iload 8, 2) := by decide +kernel
theorem dL_isActed_144 : decode cL_isActed 144 = .ok (.bipush 100, 2) := by decide +kernel
theorem dL_isActed_146 : decode cL_isActed 146 = .ok (.idiv, 1) := by decide +kernel
theorem dL_isActed_147 : decode cL_isActed 147 = .ok (.bipush 100, 2) := by decide +kernel
theorem dL_isActed_149 : decode cL_isActed 149 = .ok (.irem, 1) := by decide +kernel
theorem dL_isActed_150 : decode cL_isActed 150 = .ok (.iastore, 1) := by decide +kernel
theorem dL_isActed_151 : decode cL_isActed 151 = .ok (.aload_n 1, 1) := by decide +kernel
theorem dL_isActed_152 : decode cL_isActed 152 = .ok (.aload 4, 2) := by decide +kernel
theorem dL_isActed_154 : decode cL_isActed 154 = .ok (.aload 5, 2) := by decide +kernel
theorem dL_isActed_156 : decode cL_isActed 156 = .ok (.iload 11, 2) := by decide +kernel
theorem dL_isActed_158 : decode cL_isActed 158 = .ok (.iload 10, 2) := by decide +kernel
theorem dL_isActed_160 : decode cL_isActed 160 = .ok (.invokestatic 73, 3) := by decide +kernel
theorem dL_isActed_163 : decode cL_isActed 163 = .ok (.aload_n 0, 1) := by decide +kernel
theorem dL_isActed_164 : decode cL_isActed 164 = .ok (.iload 9, 2) := by decide +kernel
theorem dL_isActed_166 : decode cL_isActed 166 = .ok (.iload 10, 2) := by decide +kernel
theorem dL_isActed_168 : decode cL_isActed 168 = .ok (.iload 8, 2) := by decide +kernel
theorem dL_isActed_170 : decode cL_isActed 170 = .ok (.bipush 100, 2) := by decide +kernel
theorem dL_isActed_172 : decode cL_isActed 172 = .ok (.idiv, 1) := by decide +kernel
theorem dL_isActed_173 : decode cL_isActed 173 = .ok (.bipush 100, 2) := by decide +kernel
theorem dL_isActed_175 : decode cL_isActed 175 = .ok (.irem, 1) := by decide +kernel
theorem dL_isActed_176 : decode cL_isActed 176 = .ok (.invokevirtual 91, 3) := by decide +kernel
theorem dL_isActed_179 : decode cL_isActed 179 = .ok (.aload 4, 2) := by decide +kernel
theorem dL_isActed_181 : decode cL_isActed 181 = .ok (.invokestatic 9, 3) := by decide +kernel
theorem dL_isActed_184 : decode cL_isActed 184 = .ok (.if_icmp .ne 7, 3) := by decide +kernel
theorem dL_isActed_187 : decode cL_isActed 187 = .ok (.iconst 1, 1) := by decide +kernel
theorem dL_isActed_188 : decode cL_isActed 188 = .ok (.goto 4, 3) := by decide +kernel
theorem dL_isActed_191 : decode cL_isActed 191 = .ok (.iconst 0, 1) := by decide +kernel
theorem dL_isActed_192 : decode cL_isActed 192 = .ok (.ireturn, 1) := by decide +kernel
theorem dL_isActed_193 : decode cL_isActed 193 = .ok (.iload 7, 2) := by decide +kernel
theorem dL_isActed_195 : decode cL_isActed 195 = .ok (.bipush 17, 2) := by decide +kernel
theorem dL_isActed_197 : decode cL_isActed 197 = .ok (.if_icmp .ge 61, 3) := by decide +kernel
theorem dL_isActed_200 : decode cL_isActed 200 = .ok (.iconst 1, 1) := by decide +kernel
theorem dL_isActed_201 : decode cL_isActed 201 = .ok (.iload 8, 2) := by decide +kernel
theorem dL_isActed_203 : decode cL_isActed 203 = .ok (.bipush 6, 2) := by decide +kernel
theorem dL_isActed_205 : decode cL_isActed 205 = .ok (.irem, 1) := by decide +kernel
theorem dL_isActed_206 : decode cL_isActed 206 = .ok (.iadd, 1) := by decide +kernel
theorem dL_isActed_207 : decode cL_isActed 207 = .ok (.istore 9, 2) := by decide +kernel
theorem dL_isActed_209 : decode cL_isActed 209 = .ok (.aload_n 1, 1) := by decide +kernel
theorem dL_isActed_210 : decode cL_isActed 210 = .ok (.bipush 7, 2) := by decide +kernel
theorem dL_isActed_212 : decode cL_isActed 212 = .ok (.iaload, 1) := by decide +kernel
theorem dL_isActed_213 : decode cL_isActed 213 = .ok (.aload_n 1, 1) := by decide +kernel
theorem dL_isActed_214 : decode cL_isActed 214 = .ok (.bipush 6, 2) := by decide +kernel
theorem dL_isActed_216 : decode cL_isActed 216 = .ok (.iaload, 1) := by decide +kernel
theorem dL_isActed_217 : decode cL_isActed 217 = .ok (.if_icmp .ne 8, 3) := by decide +kernel
theorem dL_isActed_220 : decode cL_isActed 220 = .ok (.bipush (-2), 2) := by decide +kernel
theorem dL_isActed_222 : decode cL_isActed 222 = .ok (.goto 17, 3) := by decide +kernel

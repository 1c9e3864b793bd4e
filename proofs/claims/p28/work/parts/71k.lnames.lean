theorem dL_law_114 : decode cL_law 114 = .ok (.bipush 10, 2) := by decide +kernel
theorem dL_law_116 : decode cL_law 116 = .ok (.if_icmp .ge 11, 3) := by decide +kernel
theorem dL_law_119 : decode cL_law 119 = .ok (.iload 9, 2) := by decide +kernel
theorem dL_law_121 : decode cL_law 121 = .ok (.bipush 7, 2) := by decide +kernel
theorem dL_law_123 : decode cL_law 123 = .ok (.irem, 1) := by decide +kernel
theorem dL_law_124 : decode cL_law 124 = .ok (.goto 8, 3) := by decide +kernel
theorem dL_law_127 : decode cL_law 127 = .ok (.iload 9, 2) := by decide +kernel
theorem dL_law_129 : decode cL_law 129 = .ok (.bipush 21, 2) := by decide +kernel
theorem dL_law_131 : decode cL_law 131 = .ok (.irem, 1) := by decide +kernel
theorem dL_law_132 : decode cL_law 132 = .ok (.iload 9, 2) := by decide +kernel
theorem dL_law_134 : decode cL_law 134 = .ok (.bipush 21, 2) := by decide +kernel
theorem dL_law_136 : decode cL_law 136 = .ok (.idiv, 1) := by decide +kernel
theorem dL_law_137 : decode cL_law 137 = .ok (.invokestatic 118, 3) := by decide +kernel
theorem dL_law_140 : decode cL_law 140 = .ok (.ifCond .eq 33, 3) := by decide +kernel
theorem dL_law_143 : decode cL_law 143 = .ok (.aload_n 1, 1) := by decide +kernel
theorem dL_law_144 : decode cL_law 144 = .ok (.aload_n 2, 1) := by decide +kernel
theorem dL_law_145 : decode cL_law 145 = .ok (.aload_n 3, 1) := by decide +kernel
theorem dL_law_146 : decode cL_law 146 = .ok (.aload 4, 2) := by decide +kernel
theorem dL_law_148 : decode cL_law 148 = .ok (.aload 5, 2) := by decide +kernel
theorem dL_law_150 : decode cL_law 150 = .ok (.aload 6, 2) := by decide +kernel
theorem dL_law_152 : decode cL_law 152 = .ok (.aload 7, 2) := by decide +kernel
theorem dL_law_154 : decode cL_law 154 = .ok (.invokestatic 122, 3) := by decide +kernel
theorem dL_law_157 : decode cL_law 157 = .ok (.ifCond .eq 16, 3) := by decide +kernel
theorem dL_law_160 : decode cL_law 160 = .ok (.aload_n 1, 1) := by decide +kernel
theorem dL_law_161 : decode cL_law 161 = .ok (.aload_n 2, 1) := by decide +kernel
theorem dL_law_162 : decode cL_law 162 = .ok (.aload_n 3, 1) := by decide +kernel
theorem dL_law_163 : decode cL_law 163 = .ok (.aload 4, 2) := by decide +kernel
theorem dL_law_165 : decode cL_law 165 = .ok (.aload 5, 2) := by decide +kernel
theorem dL_law_167 : decode cL_law 167 = .ok (.invokestatic 126, 3) := by decide +kernel
theorem dL_law_170 : decode cL_law 170 = .ok (.ifCond .ne 5, 3) := by decide +kernel
theorem dL_law_173 : decode cL_law 173 = .ok (.iconst 0, 1) := by decide +kernel
theorem dL_law_174 : decode cL_law 174 = .ok (.ireturn, 1) := by decide +kernel
theorem dL_law_175 : decode cL_law 175 = .ok (.iinc 8 1, 3) := by decide +kernel
theorem dL_law_178 : decode cL_law 178 = .ok (.goto (-95), 3) := by decide +kernel
theorem dL_law_181 : decode cL_law 181 = .ok (.iconst 1, 1) := by decide +kernel
theorem dL_law_182 : decode cL_law 182 = .ok (.ireturn, 1) := by decide +kernel

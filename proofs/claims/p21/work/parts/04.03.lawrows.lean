theorem dL_isOrdered_107 : decode cL_isOrdered 107 = .ok (.aload_n 0, 1) := by decide +kernel
theorem dL_isOrdered_108 : decode cL_isOrdered 108 = .ok (.iconst 0, 1) := by decide +kernel
theorem dL_isOrdered_109 : decode cL_isOrdered 109 = .ok (.iconst 0, 1) := by decide +kernel
theorem dL_isOrdered_110 : decode cL_isOrdered 110 = .ok (.iconst 1, 1) := by decide +kernel
theorem dL_isOrdered_111 : decode cL_isOrdered 111 = .ok (.iconst 1, 1) := by decide +kernel
theorem dL_isOrdered_112 : decode cL_isOrdered 112 = .ok (.invokevirtual 56, 3) := by decide +kernel
theorem dL_isOrdered_115 : decode cL_isOrdered 115 = .ok (.iconst 2, 1) := by decide +kernel
theorem dL_isOrdered_116 : decode cL_isOrdered 116 = .ok (.if_icmp .ne 7, 3) := by decide +kernel
theorem dL_isOrdered_119 : decode cL_isOrdered 119 = .ok (.iconst 1, 1) := by decide +kernel
theorem dL_isOrdered_120 : decode cL_isOrdered 120 = .ok (.goto 4, 3) := by decide +kernel
theorem dL_isOrdered_123 : decode cL_isOrdered 123 = .ok (.iconst 0, 1) := by decide +kernel
theorem dL_isOrdered_124 : decode cL_isOrdered 124 = .ok (.ireturn, 1) := by decide +kernel
theorem dL_isOrdered_125 : decode cL_isOrdered 125 = .ok (.iload_n 3, 1) := by decide +kernel
theorem dL_isOrdered_126 : decode cL_isOrdered 126 = .ok (.bipush 41, 2) := by decide +kernel
theorem dL_isOrdered_128 : decode cL_isOrdered 128 = .ok (.if_icmp .ne 9, 3) := by decide +kernel
theorem dL_isOrdered_131 : decode cL_isOrdered 131 = .ok (.iload 4, 2) := by decide +kernel
theorem dL_isOrdered_133 : decode cL_isOrdered 133 = .ok (.iconst (-1), 1) := by decide +kernel
theorem dL_isOrdered_134 : decode cL_isOrdered 134 = .ok (.if_icmp .eq 42, 3) := by decide +kernel
theorem dL_isOrdered_137 : decode cL_isOrdered 137 = .ok (.iload_n 3, 1) := by decide +kernel
theorem dL_isOrdered_138 : decode cL_isOrdered 138 = .ok (.bipush 52, 2) := by decide +kernel
theorem dL_isOrdered_140 : decode cL_isOrdered 140 = .ok (.if_icmp .ne 9, 3) := by decide +kernel
theorem dL_isOrdered_143 : decode cL_isOrdered 143 = .ok (.iload 4, 2) := by decide +kernel
theorem dL_isOrdered_145 : decode cL_isOrdered 145 = .ok (.iconst 1, 1) := by decide +kernel
theorem dL_isOrdered_146 : decode cL_isOrdered 146 = .ok (.if_icmp .eq 30, 3) := by decide +kernel
theorem dL_isOrdered_149 : decode cL_isOrdered 149 = .ok (.iload_n 3, 1) := by decide +kernel
theorem dL_isOrdered_150 : decode cL_isOrdered 150 = .ok (.bipush 26, 2) := by decide +kernel
theorem dL_isOrdered_152 : decode cL_isOrdered 152 = .ok (.if_icmp .ne 28, 3) := by decide +kernel
theorem dL_isOrdered_155 : decode cL_isOrdered 155 = .ok (.iload 4, 2) := by decide +kernel
theorem dL_isOrdered_157 : decode cL_isOrdered 157 = .ok (.ifCond .eq 19, 3) := by decide +kernel
theorem dL_isOrdered_160 : decode cL_isOrdered 160 = .ok (.aload_n 0, 1) := by decide +kernel
theorem dL_isOrdered_161 : decode cL_isOrdered 161 = .ok (.iconst 0, 1) := by decide +kernel
theorem dL_isOrdered_162 : decode cL_isOrdered 162 = .ok (.iconst 0, 1) := by decide +kernel
theorem dL_isOrdered_163 : decode cL_isOrdered 163 = .ok (.invokevirtual 60, 3) := by decide +kernel
theorem dL_isOrdered_166 : decode cL_isOrdered 166 = .ok (.aload_n 0, 1) := by decide +kernel
theorem dL_isOrdered_167 : decode cL_isOrdered 167 = .ok (.iconst 0, 1) := by decide +kernel
theorem dL_isOrdered_168 : decode cL_isOrdered 168 = .ok (.iconst 1, 1) := by decide +kernel
theorem dL_isOrdered_169 : decode cL_isOrdered 169 = .ok (.invokevirtual 60, 3) := by decide +kernel
theorem dL_isOrdered_172 : decode cL_isOrdered 172 = .ok (.lcmp, 1) := by decide +kernel
theorem dL_isOrdered_173 : decode cL_isOrdered 173 = .ok (.ifCond .eq 7, 3) := by decide +kernel
theorem dL_isOrdered_176 : decode cL_isOrdered 176 = .ok (.iconst 1, 1) := by decide +kernel
theorem dL_isOrdered_177 : decode cL_isOrdered 177 = .ok (.goto 4, 3) := by decide +kernel
theorem dL_isOrdered_180 : decode cL_isOrdered 180 = .ok (.iconst 0, 1) := by decide +kernel
theorem dL_isOrdered_181 : decode cL_isOrdered 181 = .ok (.ireturn, 1) := by decide +kernel
theorem dL_isReckoned_0 : decode cL_isReckoned 0 = .ok (.aload_n 0, 1) := by decide +kernel
theorem dL_isReckoned_1 : decode cL_isReckoned 1 = .ok (.iconst 0, 1) := by decide +kernel
theorem dL_isReckoned_2 : decode cL_isReckoned 2 = .ok (.bipush 8, 2) := by decide +kernel
theorem dL_isReckoned_4 : decode cL_isReckoned 4 = .ok (.iconst 0, 1) := by decide +kernel
theorem dL_isReckoned_5 : decode cL_isReckoned 5 = .ok (.iconst 1, 1) := by decide +kernel
theorem dL_isReckoned_6 : decode cL_isReckoned 6 = .ok (.iconst 2, 1) := by decide +kernel
theorem dL_isReckoned_7 : decode cL_isReckoned 7 = .ok (.invokevirtual 64, 3) := by decide +kernel
theorem dL_isReckoned_10 : decode cL_isReckoned 10 = .ok (.aload_n 0, 1) := by decide +kernel
theorem dL_isReckoned_11 : decode cL_isReckoned 11 = .ok (.iconst 0, 1) := by decide +kernel
theorem dL_isReckoned_12 : decode cL_isReckoned 12 = .ok (.bipush 8, 2) := by decide +kernel
theorem dL_isReckoned_14 : decode cL_isReckoned 14 = .ok (.iconst 1, 1) := by decide +kernel
theorem dL_isReckoned_15 : decode cL_isReckoned 15 = .ok (.iconst 0, 1) := by decide +kernel
theorem dL_isReckoned_16 : decode cL_isReckoned 16 = .ok (.iconst 3, 1) := by decide +kernel
theorem dL_isReckoned_17 : decode cL_isReckoned 17 = .ok (.invokevirtual 64, 3) := by decide +kernel
theorem dL_isReckoned_20 : decode cL_isReckoned 20 = .ok (.if_icmp .ne 23, 3) := by decide +kernel
theorem dL_isReckoned_23 : decode cL_isReckoned 23 = .ok (.aload_n 0, 1) := by decide +kernel
theorem dL_isReckoned_24 : decode cL_isReckoned 24 = .ok (.iconst 0, 1) := by decide +kernel
theorem dL_isReckoned_25 : decode cL_isReckoned 25 = .ok (.iconst 2, 1) := by decide +kernel
theorem dL_isReckoned_26 : decode cL_isReckoned 26 = .ok (.invokevirtual 60, 3) := by decide +kernel
theorem dL_isReckoned_29 : decode cL_isReckoned 29 = .ok (.aload_n 0, 1) := by decide +kernel
theorem dL_isReckoned_30 : decode cL_isReckoned 30 = .ok (.iconst 0, 1) := by decide +kernel
theorem dL_isReckoned_31 : decode cL_isReckoned 31 = .ok (.iconst 3, 1) := by decide +kernel
theorem dL_isReckoned_32 : decode cL_isReckoned 32 = .ok (.invokevirtual 60, 3) := by decide +kernel
theorem dL_isReckoned_35 : decode cL_isReckoned 35 = .ok (.lcmp, 1) := by decide +kernel
theorem dL_isReckoned_36 : decode cL_isReckoned 36 = .ok (.ifCond .ne 7, 3) := by decide +kernel
theorem dL_isReckoned_39 : decode cL_isReckoned 39 = .ok (.iconst 1, 1) := by decide +kernel
theorem dL_isReckoned_40 : decode cL_isReckoned 40 = .ok (.goto 4, 3) := by decide +kernel
theorem dL_isReckoned_43 : decode cL_isReckoned 43 = .ok (.iconst 0, 1) := by decide +kernel
theorem dL_isReckoned_44 : decode cL_isReckoned 44 = .ok (.istore_n 1, 1) := by decide +kernel
theorem dL_isReckoned_45 : decode cL_isReckoned 45 = .ok (.iload_n 1, 1) := by decide +kernel
theorem dL_isReckoned_46 : decode cL_isReckoned 46 = .ok (.ifCond .eq 46, 3) := by decide +kernel
theorem dL_isReckoned_49 : decode cL_isReckoned 49 = .ok (.aload_n 0, 1) := by decide +kernel

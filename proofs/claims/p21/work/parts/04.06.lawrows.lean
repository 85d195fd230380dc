theorem dL_isAbout_110 : decode cL_isAbout 110 = .ok (.invokevirtual 60, 3) := by decide +kernel
theorem dL_isAbout_113 : decode cL_isAbout 113 = .ok (.lcmp, 1) := by decide +kernel
theorem dL_isAbout_114 : decode cL_isAbout 114 = .ok (.ifCond .ne 7, 3) := by decide +kernel
theorem dL_isAbout_117 : decode cL_isAbout 117 = .ok (.iconst 1, 1) := by decide +kernel
theorem dL_isAbout_118 : decode cL_isAbout 118 = .ok (.goto 4, 3) := by decide +kernel
theorem dL_isAbout_121 : decode cL_isAbout 121 = .ok (.iconst 0, 1) := by decide +kernel
theorem dL_isAbout_122 : decode cL_isAbout 122 = .ok (.istore 5, 2) := by decide +kernel
theorem dL_isAbout_124 : decode cL_isAbout 124 = .ok (.iload 5, 2) := by decide +kernel
theorem dL_isAbout_126 : decode cL_isAbout 126 = .ok (.ifCond .eq 43, 3) := by decide +kernel
theorem dL_isAbout_129 : decode cL_isAbout 129 = .ok (.aload_n 0, 1) := by decide +kernel
theorem dL_isAbout_130 : decode cL_isAbout 130 = .ok (.iconst 0, 1) := by decide +kernel
theorem dL_isAbout_131 : decode cL_isAbout 131 = .ok (.iconst 0, 1) := by decide +kernel
theorem dL_isAbout_132 : decode cL_isAbout 132 = .ok (.iconst 2, 1) := by decide +kernel
theorem dL_isAbout_133 : decode cL_isAbout 133 = .ok (.iconst 3, 1) := by decide +kernel
theorem dL_isAbout_134 : decode cL_isAbout 134 = .ok (.invokevirtual 56, 3) := by decide +kernel
theorem dL_isAbout_137 : decode cL_isAbout 137 = .ok (.iconst 3, 1) := by decide +kernel
theorem dL_isAbout_138 : decode cL_isAbout 138 = .ok (.if_icmp .ne 31, 3) := by decide +kernel
theorem dL_isAbout_141 : decode cL_isAbout 141 = .ok (.aload_n 0, 1) := by decide +kernel
theorem dL_isAbout_142 : decode cL_isAbout 142 = .ok (.iconst 0, 1) := by decide +kernel
theorem dL_isAbout_143 : decode cL_isAbout 143 = .ok (.iconst 4, 1) := by decide +kernel
theorem dL_isAbout_144 : decode cL_isAbout 144 = .ok (.iconst 2, 1) := by decide +kernel
theorem dL_isAbout_145 : decode cL_isAbout 145 = .ok (.invokevirtual 7, 3) := by decide +kernel
theorem dL_isAbout_148 : decode cL_isAbout 148 = .ok (.bipush 26, 2) := by decide +kernel
theorem dL_isAbout_150 : decode cL_isAbout 150 = .ok (.if_icmp .eq 15, 3) := by decide +kernel
theorem dL_isAbout_153 : decode cL_isAbout 153 = .ok (.aload_n 0, 1) := by decide +kernel
theorem dL_isAbout_154 : decode cL_isAbout 154 = .ok (.iconst 0, 1) := by decide +kernel
theorem dL_isAbout_155 : decode cL_isAbout 155 = .ok (.iconst 4, 1) := by decide +kernel
theorem dL_isAbout_156 : decode cL_isAbout 156 = .ok (.iconst 3, 1) := by decide +kernel
theorem dL_isAbout_157 : decode cL_isAbout 157 = .ok (.invokevirtual 7, 3) := by decide +kernel
theorem dL_isAbout_160 : decode cL_isAbout 160 = .ok (.bipush 26, 2) := by decide +kernel
theorem dL_isAbout_162 : decode cL_isAbout 162 = .ok (.if_icmp .ne 7, 3) := by decide +kernel
theorem dL_isAbout_165 : decode cL_isAbout 165 = .ok (.iconst 1, 1) := by decide +kernel
theorem dL_isAbout_166 : decode cL_isAbout 166 = .ok (.goto 4, 3) := by decide +kernel
theorem dL_isAbout_169 : decode cL_isAbout 169 = .ok (.iconst 0, 1) := by decide +kernel
theorem dL_isAbout_170 : decode cL_isAbout 170 = .ok (.ireturn, 1) := by decide +kernel
theorem dL_isLeft_0 : decode cL_isLeft 0 = .ok (.aload_n 0, 1) := by decide +kernel
theorem dL_isLeft_1 : decode cL_isLeft 1 = .ok (.iconst 0, 1) := by decide +kernel
theorem dL_isLeft_2 : decode cL_isLeft 2 = .ok (.bipush 12, 2) := by decide +kernel
theorem dL_isLeft_4 : decode cL_isLeft 4 = .ok (.iconst 0, 1) := by decide +kernel
theorem dL_isLeft_5 : decode cL_isLeft 5 = .ok (.iconst 1, 1) := by decide +kernel
theorem dL_isLeft_6 : decode cL_isLeft 6 = .ok (.iconst 2, 1) := by decide +kernel
theorem dL_isLeft_7 : decode cL_isLeft 7 = .ok (.invokevirtual 64, 3) := by decide +kernel
theorem dL_isLeft_10 : decode cL_isLeft 10 = .ok (.istore_n 1, 1) := by decide +kernel
theorem dL_isLeft_11 : decode cL_isLeft 11 = .ok (.iload_n 1, 1) := by decide +kernel
theorem dL_isLeft_12 : decode cL_isLeft 12 = .ok (.iconst 3, 1) := by decide +kernel
theorem dL_isLeft_13 : decode cL_isLeft 13 = .ok (.if_icmp .ne 5, 3) := by decide +kernel
theorem dL_isLeft_16 : decode cL_isLeft 16 = .ok (.iconst 1, 1) := by decide +kernel
theorem dL_isLeft_17 : decode cL_isLeft 17 = .ok (.ireturn, 1) := by decide +kernel
theorem dL_isLeft_18 : decode cL_isLeft 18 = .ok (.aload_n 0, 1) := by decide +kernel
theorem dL_isLeft_19 : decode cL_isLeft 19 = .ok (.iconst 0, 1) := by decide +kernel
theorem dL_isLeft_20 : decode cL_isLeft 20 = .ok (.iconst 0, 1) := by decide +kernel
theorem dL_isLeft_21 : decode cL_isLeft 21 = .ok (.iconst 2, 1) := by decide +kernel
theorem dL_isLeft_22 : decode cL_isLeft 22 = .ok (.iconst 2, 1) := by decide +kernel
theorem dL_isLeft_23 : decode cL_isLeft 23 = .ok (.iconst 3, 1) := by decide +kernel
theorem dL_isLeft_24 : decode cL_isLeft 24 = .ok (.invokevirtual 64, 3) := by decide +kernel
theorem dL_isLeft_27 : decode cL_isLeft 27 = .ok (.pop, 1) := by decide +kernel
theorem dL_isLeft_28 : decode cL_isLeft 28 = .ok (.aload_n 0, 1) := by decide +kernel
theorem dL_isLeft_29 : decode cL_isLeft 29 = .ok (.iconst 0, 1) := by decide +kernel
theorem dL_isLeft_30 : decode cL_isLeft 30 = .ok (.iconst 0, 1) := by decide +kernel
theorem dL_isLeft_31 : decode cL_isLeft 31 = .ok (.iconst 1, 1) := by decide +kernel
theorem dL_isLeft_32 : decode cL_isLeft 32 = .ok (.iconst 1, 1) := by decide +kernel
theorem dL_isLeft_33 : decode cL_isLeft 33 = .ok (.iconst 4, 1) := by decide +kernel
theorem dL_isLeft_34 : decode cL_isLeft 34 = .ok (.invokevirtual 64, 3) := by decide +kernel
theorem dL_isLeft_37 : decode cL_isLeft 37 = .ok (.pop, 1) := by decide +kernel
theorem dL_isLeft_38 : decode cL_isLeft 38 = .ok (.aload_n 0, 1) := by decide +kernel
theorem dL_isLeft_39 : decode cL_isLeft 39 = .ok (.iconst 0, 1) := by decide +kernel
theorem dL_isLeft_40 : decode cL_isLeft 40 = .ok (.bipush 7, 2) := by decide +kernel
theorem dL_isLeft_42 : decode cL_isLeft 42 = .ok (.iconst 0, 1) := by decide +kernel
theorem dL_isLeft_43 : decode cL_isLeft 43 = .ok (.iconst 0, 1) := by decide +kernel
theorem dL_isLeft_44 : decode cL_isLeft 44 = .ok (.iconst 5, 1) := by decide +kernel
theorem dL_isLeft_45 : decode cL_isLeft 45 = .ok (.invokevirtual 64, 3) := by decide +kernel
theorem dL_isLeft_48 : decode cL_isLeft 48 = .ok (.istore_n 2, 1) := by decide +kernel
theorem dL_isLeft_49 : decode cL_isLeft 49 = .ok (.aload_n 0, 1) := by decide +kernel
theorem dL_isLeft_50 : decode cL_isLeft 50 = .ok (.iconst 0, 1) := by decide +kernel
theorem dL_isLeft_51 : decode cL_isLeft 51 = .ok (.iconst 3, 1) := by decide +kernel

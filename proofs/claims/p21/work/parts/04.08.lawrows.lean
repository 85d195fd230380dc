theorem dL_isHeld_90 : decode cL_isHeld 90 = .ok (.iconst 3, 1) := by decide +kernel
theorem dL_isHeld_91 : decode cL_isHeld 91 = .ok (.iand, 1) := by decide +kernel
theorem dL_isHeld_92 : decode cL_isHeld 92 = .ok (.ifCond .ne 7, 3) := by decide +kernel
theorem dL_isHeld_95 : decode cL_isHeld 95 = .ok (.iconst 1, 1) := by decide +kernel
theorem dL_isHeld_96 : decode cL_isHeld 96 = .ok (.goto 4, 3) := by decide +kernel
theorem dL_isHeld_99 : decode cL_isHeld 99 = .ok (.iconst 0, 1) := by decide +kernel
theorem dL_isHeld_100 : decode cL_isHeld 100 = .ok (.istore_n 3, 1) := by decide +kernel
theorem dL_isHeld_101 : decode cL_isHeld 101 = .ok (.aload_n 0, 1) := by decide +kernel
theorem dL_isHeld_102 : decode cL_isHeld 102 = .ok (.iconst 0, 1) := by decide +kernel
theorem dL_isHeld_103 : decode cL_isHeld 103 = .ok (.iconst 3, 1) := by decide +kernel
theorem dL_isHeld_104 : decode cL_isHeld 104 = .ok (.iconst 4, 1) := by decide +kernel
theorem dL_isHeld_105 : decode cL_isHeld 105 = .ok (.iload_n 1, 1) := by decide +kernel
theorem dL_isHeld_106 : decode cL_isHeld 106 = .ok (.invokevirtual 75, 3) := by decide +kernel
theorem dL_isHeld_109 : decode cL_isHeld 109 = .ok (.istore 4, 2) := by decide +kernel
theorem dL_isHeld_111 : decode cL_isHeld 111 = .ok (.iload 4, 2) := by decide +kernel
theorem dL_isHeld_113 : decode cL_isHeld 113 = .ok (.iload_n 3, 1) := by decide +kernel
theorem dL_isHeld_114 : decode cL_isHeld 114 = .ok (.ifCond .eq 7, 3) := by decide +kernel
theorem dL_isHeld_117 : decode cL_isHeld 117 = .ok (.iconst 1, 1) := by decide +kernel
theorem dL_isHeld_118 : decode cL_isHeld 118 = .ok (.goto 4, 3) := by decide +kernel
theorem dL_isHeld_121 : decode cL_isHeld 121 = .ok (.iconst 0, 1) := by decide +kernel
theorem dL_isHeld_122 : decode cL_isHeld 122 = .ok (.if_icmp .ne 35, 3) := by decide +kernel
theorem dL_isHeld_125 : decode cL_isHeld 125 = .ok (.aload_n 0, 1) := by decide +kernel
theorem dL_isHeld_126 : decode cL_isHeld 126 = .ok (.bipush 6, 2) := by decide +kernel
theorem dL_isHeld_128 : decode cL_isHeld 128 = .ok (.invokestatic 72, 3) := by decide +kernel
theorem dL_isHeld_131 : decode cL_isHeld 131 = .ok (.ifCond .ne 26, 3) := by decide +kernel
theorem dL_isHeld_134 : decode cL_isHeld 134 = .ok (.aload_n 0, 1) := by decide +kernel
theorem dL_isHeld_135 : decode cL_isHeld 135 = .ok (.bipush 7, 2) := by decide +kernel
theorem dL_isHeld_137 : decode cL_isHeld 137 = .ok (.invokestatic 72, 3) := by decide +kernel
theorem dL_isHeld_140 : decode cL_isHeld 140 = .ok (.ifCond .ne 17, 3) := by decide +kernel
theorem dL_isHeld_143 : decode cL_isHeld 143 = .ok (.aload_n 0, 1) := by decide +kernel
theorem dL_isHeld_144 : decode cL_isHeld 144 = .ok (.iconst 0, 1) := by decide +kernel
theorem dL_isHeld_145 : decode cL_isHeld 145 = .ok (.bipush 6, 2) := by decide +kernel
theorem dL_isHeld_147 : decode cL_isHeld 147 = .ok (.bipush 7, 2) := by decide +kernel
theorem dL_isHeld_149 : decode cL_isHeld 149 = .ok (.invokevirtual 7, 3) := by decide +kernel
theorem dL_isHeld_152 : decode cL_isHeld 152 = .ok (.bipush 41, 2) := by decide +kernel
theorem dL_isHeld_154 : decode cL_isHeld 154 = .ok (.if_icmp .eq 5, 3) := by decide +kernel
theorem dL_isHeld_157 : decode cL_isHeld 157 = .ok (.iconst 0, 1) := by decide +kernel
theorem dL_isHeld_158 : decode cL_isHeld 158 = .ok (.ireturn, 1) := by decide +kernel
theorem dL_isHeld_159 : decode cL_isHeld 159 = .ok (.iload_n 2, 1) := by decide +kernel
theorem dL_isHeld_160 : decode cL_isHeld 160 = .ok (.iconst 3, 1) := by decide +kernel
theorem dL_isHeld_161 : decode cL_isHeld 161 = .ok (.if_icmp .eq 18, 3) := by decide +kernel
theorem dL_isHeld_164 : decode cL_isHeld 164 = .ok (.aload_n 0, 1) := by decide +kernel
theorem dL_isHeld_165 : decode cL_isHeld 165 = .ok (.iconst 0, 1) := by decide +kernel
theorem dL_isHeld_166 : decode cL_isHeld 166 = .ok (.bipush 10, 2) := by decide +kernel
theorem dL_isHeld_168 : decode cL_isHeld 168 = .ok (.bipush 6, 2) := by decide +kernel
theorem dL_isHeld_170 : decode cL_isHeld 170 = .ok (.bipush 7, 2) := by decide +kernel
theorem dL_isHeld_172 : decode cL_isHeld 172 = .ok (.invokevirtual 56, 3) := by decide +kernel
theorem dL_isHeld_175 : decode cL_isHeld 175 = .ok (.iconst 3, 1) := by decide +kernel
theorem dL_isHeld_176 : decode cL_isHeld 176 = .ok (.if_icmp .ne 7, 3) := by decide +kernel
theorem dL_isHeld_179 : decode cL_isHeld 179 = .ok (.iconst 1, 1) := by decide +kernel
theorem dL_isHeld_180 : decode cL_isHeld 180 = .ok (.goto 4, 3) := by decide +kernel
theorem dL_isHeld_183 : decode cL_isHeld 183 = .ok (.iconst 0, 1) := by decide +kernel
theorem dL_isHeld_184 : decode cL_isHeld 184 = .ok (.ireturn, 1) := by decide +kernel

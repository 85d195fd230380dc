theorem dL_isReckoned_50 : decode cL_isReckoned 50 = .ok (.iconst 0, 1) := by decide +kernel
theorem dL_isReckoned_51 : decode cL_isReckoned 51 = .ok (.bipush 10, 2) := by decide +kernel
theorem dL_isReckoned_53 : decode cL_isReckoned 53 = .ok (.iconst 0, 1) := by decide +kernel
theorem dL_isReckoned_54 : decode cL_isReckoned 54 = .ok (.iconst 1, 1) := by decide +kernel
theorem dL_isReckoned_55 : decode cL_isReckoned 55 = .ok (.iconst 2, 1) := by decide +kernel
theorem dL_isReckoned_56 : decode cL_isReckoned 56 = .ok (.invokevirtual 64, 3) := by decide +kernel
theorem dL_isReckoned_59 : decode cL_isReckoned 59 = .ok (.aload_n 0, 1) := by decide +kernel
theorem dL_isReckoned_60 : decode cL_isReckoned 60 = .ok (.iconst 0, 1) := by decide +kernel
theorem dL_isReckoned_61 : decode cL_isReckoned 61 = .ok (.bipush 10, 2) := by decide +kernel
theorem dL_isReckoned_63 : decode cL_isReckoned 63 = .ok (.iconst 1, 1) := by decide +kernel
theorem dL_isReckoned_64 : decode cL_isReckoned 64 = .ok (.iconst 0, 1) := by decide +kernel
theorem dL_isReckoned_65 : decode cL_isReckoned 65 = .ok (.iconst 3, 1) := by decide +kernel
theorem dL_isReckoned_66 : decode cL_isReckoned 66 = .ok (.invokevirtual 64, 3) := by decide +kernel
theorem dL_isReckoned_69 : decode cL_isReckoned 69 = .ok (.if_icmp .ne 23, 3) := by decide +kernel
theorem dL_isReckoned_72 : decode cL_isReckoned 72 = .ok (.aload_n 0, 1) := by decide +kernel
theorem dL_isReckoned_73 : decode cL_isReckoned 73 = .ok (.iconst 0, 1) := by decide +kernel
theorem dL_isReckoned_74 : decode cL_isReckoned 74 = .ok (.iconst 2, 1) := by decide +kernel
theorem dL_isReckoned_75 : decode cL_isReckoned 75 = .ok (.invokevirtual 60, 3) := by decide +kernel
theorem dL_isReckoned_78 : decode cL_isReckoned 78 = .ok (.aload_n 0, 1) := by decide +kernel
theorem dL_isReckoned_79 : decode cL_isReckoned 79 = .ok (.iconst 0, 1) := by decide +kernel
theorem dL_isReckoned_80 : decode cL_isReckoned 80 = .ok (.iconst 3, 1) := by decide +kernel
theorem dL_isReckoned_81 : decode cL_isReckoned 81 = .ok (.invokevirtual 60, 3) := by decide +kernel
theorem dL_isReckoned_84 : decode cL_isReckoned 84 = .ok (.lcmp, 1) := by decide +kernel
theorem dL_isReckoned_85 : decode cL_isReckoned 85 = .ok (.ifCond .ne 7, 3) := by decide +kernel
theorem dL_isReckoned_88 : decode cL_isReckoned 88 = .ok (.iconst 1, 1) := by decide +kernel
theorem dL_isReckoned_89 : decode cL_isReckoned 89 = .ok (.goto 4, 3) := by decide +kernel
theorem dL_isReckoned_92 : decode cL_isReckoned 92 = .ok (.iconst 0, 1) := by decide +kernel
theorem dL_isReckoned_93 : decode cL_isReckoned 93 = .ok (.istore_n 1, 1) := by decide +kernel
theorem dL_isReckoned_94 : decode cL_isReckoned 94 = .ok (.aload_n 0, 1) := by decide +kernel
theorem dL_isReckoned_95 : decode cL_isReckoned 95 = .ok (.iconst 0, 1) := by decide +kernel
theorem dL_isReckoned_96 : decode cL_isReckoned 96 = .ok (.bipush 9, 2) := by decide +kernel
theorem dL_isReckoned_98 : decode cL_isReckoned 98 = .ok (.iconst 0, 1) := by decide +kernel
theorem dL_isReckoned_99 : decode cL_isReckoned 99 = .ok (.iconst 1, 1) := by decide +kernel
theorem dL_isReckoned_100 : decode cL_isReckoned 100 = .ok (.iconst 2, 1) := by decide +kernel
theorem dL_isReckoned_101 : decode cL_isReckoned 101 = .ok (.invokevirtual 64, 3) := by decide +kernel
theorem dL_isReckoned_104 : decode cL_isReckoned 104 = .ok (.istore_n 2, 1) := by decide +kernel
theorem dL_isReckoned_105 : decode cL_isReckoned 105 = .ok (.aload_n 0, 1) := by decide +kernel
theorem dL_isReckoned_106 : decode cL_isReckoned 106 = .ok (.iconst 0, 1) := by decide +kernel
theorem dL_isReckoned_107 : decode cL_isReckoned 107 = .ok (.bipush 9, 2) := by decide +kernel
theorem dL_isReckoned_109 : decode cL_isReckoned 109 = .ok (.iconst 1, 1) := by decide +kernel
theorem dL_isReckoned_110 : decode cL_isReckoned 110 = .ok (.iconst 0, 1) := by decide +kernel
theorem dL_isReckoned_111 : decode cL_isReckoned 111 = .ok (.iconst 3, 1) := by decide +kernel
theorem dL_isReckoned_112 : decode cL_isReckoned 112 = .ok (.invokevirtual 64, 3) := by decide +kernel
theorem dL_isReckoned_115 : decode cL_isReckoned 115 = .ok (.pop, 1) := by decide +kernel
theorem dL_isReckoned_116 : decode cL_isReckoned 116 = .ok (.aload_n 0, 1) := by decide +kernel
theorem dL_isReckoned_117 : decode cL_isReckoned 117 = .ok (.iconst 0, 1) := by decide +kernel
theorem dL_isReckoned_118 : decode cL_isReckoned 118 = .ok (.bipush 13, 2) := by decide +kernel
theorem dL_isReckoned_120 : decode cL_isReckoned 120 = .ok (.iconst 3, 1) := by decide +kernel
theorem dL_isReckoned_121 : decode cL_isReckoned 121 = .ok (.iconst 3, 1) := by decide +kernel
theorem dL_isReckoned_122 : decode cL_isReckoned 122 = .ok (.iconst 3, 1) := by decide +kernel
theorem dL_isReckoned_123 : decode cL_isReckoned 123 = .ok (.invokevirtual 64, 3) := by decide +kernel
theorem dL_isReckoned_126 : decode cL_isReckoned 126 = .ok (.pop, 1) := by decide +kernel
theorem dL_isReckoned_127 : decode cL_isReckoned 127 = .ok (.iload_n 1, 1) := by decide +kernel
theorem dL_isReckoned_128 : decode cL_isReckoned 128 = .ok (.ifCond .eq 39, 3) := by decide +kernel
theorem dL_isReckoned_131 : decode cL_isReckoned 131 = .ok (.iload_n 2, 1) := by decide +kernel
theorem dL_isReckoned_132 : decode cL_isReckoned 132 = .ok (.iconst 3, 1) := by decide +kernel
theorem dL_isReckoned_133 : decode cL_isReckoned 133 = .ok (.if_icmp .ne 18, 3) := by decide +kernel
theorem dL_isReckoned_136 : decode cL_isReckoned 136 = .ok (.aload_n 0, 1) := by decide +kernel
theorem dL_isReckoned_137 : decode cL_isReckoned 137 = .ok (.iconst 0, 1) := by decide +kernel
theorem dL_isReckoned_138 : decode cL_isReckoned 138 = .ok (.iconst 2, 1) := by decide +kernel
theorem dL_isReckoned_139 : decode cL_isReckoned 139 = .ok (.iconst 3, 1) := by decide +kernel
theorem dL_isReckoned_140 : decode cL_isReckoned 140 = .ok (.invokevirtual 7, 3) := by decide +kernel
theorem dL_isReckoned_143 : decode cL_isReckoned 143 = .ok (.bipush 32, 2) := by decide +kernel
theorem dL_isReckoned_145 : decode cL_isReckoned 145 = .ok (.if_icmp .ne 22, 3) := by decide +kernel
theorem dL_isReckoned_148 : decode cL_isReckoned 148 = .ok (.goto 15, 3) := by decide +kernel
theorem dL_isReckoned_151 : decode cL_isReckoned 151 = .ok (.aload_n 0, 1) := by decide +kernel
theorem dL_isReckoned_152 : decode cL_isReckoned 152 = .ok (.iconst 0, 1) := by decide +kernel
theorem dL_isReckoned_153 : decode cL_isReckoned 153 = .ok (.iconst 2, 1) := by decide +kernel
theorem dL_isReckoned_154 : decode cL_isReckoned 154 = .ok (.iconst 3, 1) := by decide +kernel
theorem dL_isReckoned_155 : decode cL_isReckoned 155 = .ok (.invokevirtual 7, 3) := by decide +kernel
theorem dL_isReckoned_158 : decode cL_isReckoned 158 = .ok (.bipush 26, 2) := by decide +kernel
theorem dL_isReckoned_160 : decode cL_isReckoned 160 = .ok (.if_icmp .ne 7, 3) := by decide +kernel
theorem dL_isReckoned_163 : decode cL_isReckoned 163 = .ok (.iconst 1, 1) := by decide +kernel
theorem dL_isReckoned_164 : decode cL_isReckoned 164 = .ok (.goto 4, 3) := by decide +kernel
theorem dL_isReckoned_167 : decode cL_isReckoned 167 = .ok (.iconst 0, 1) := by decide +kernel

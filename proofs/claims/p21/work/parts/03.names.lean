theorem dX2_shiftedRight_25 : decode cX2_shiftedRight 25 = .ok (.lload_n 0, 1) := by decide +kernel
theorem dX2_shiftedRight_26 : decode cX2_shiftedRight 26 = .ok (.lcmp, 1) := by decide +kernel
theorem dX2_shiftedRight_27 : decode cX2_shiftedRight 27 = .ok (.ifCond .ne 7, 3) := by decide +kernel
theorem dX2_shiftedRight_30 : decode cX2_shiftedRight 30 = .ok (.lload_n 3, 1) := by decide +kernel
theorem dX2_shiftedRight_31 : decode cX2_shiftedRight 31 = .ok (.goto 6, 3) := by decide +kernel
theorem dX2_shiftedRight_34 : decode cX2_shiftedRight 34 = .ok (.lload_n 3, 1) := by decide +kernel
theorem dX2_shiftedRight_35 : decode cX2_shiftedRight 35 = .ok (.lconst 1, 1) := by decide +kernel
theorem dX2_shiftedRight_36 : decode cX2_shiftedRight 36 = .ok (.lor, 1) := by decide +kernel
theorem dX2_shiftedRight_37 : decode cX2_shiftedRight 37 = .ok (.lreturn, 1) := by decide +kernel
theorem dX2_times_0 : decode cX2_times 0 = .ok (.aload_n 0, 1) := by decide +kernel
theorem dX2_times_1 : decode cX2_times 1 = .ok (.lload_n 1, 1) := by decide +kernel
theorem dX2_times_2 : decode cX2_times 2 = .ok (.invokevirtual 40, 3) := by decide +kernel
theorem dX2_times_5 : decode cX2_times 5 = .ok (.aload_n 0, 1) := by decide +kernel
theorem dX2_times_6 : decode cX2_times 6 = .ok (.lload_n 3, 1) := by decide +kernel
theorem dX2_times_7 : decode cX2_times 7 = .ok (.invokevirtual 40, 3) := by decide +kernel
theorem dX2_times_10 : decode cX2_times 10 = .ok (.if_icmp .eq 7, 3) := by decide +kernel
theorem dX2_times_13 : decode cX2_times 13 = .ok (.iconst 1, 1) := by decide +kernel
theorem dX2_times_14 : decode cX2_times 14 = .ok (.goto 4, 3) := by decide +kernel
theorem dX2_times_17 : decode cX2_times 17 = .ok (.iconst 0, 1) := by decide +kernel
theorem dX2_times_18 : decode cX2_times 18 = .ok (.istore 5, 2) := by decide +kernel
theorem dX2_times_20 : decode cX2_times 20 = .ok (.aload_n 0, 1) := by decide +kernel
theorem dX2_times_21 : decode cX2_times 21 = .ok (.lload_n 1, 1) := by decide +kernel
theorem dX2_times_22 : decode cX2_times 22 = .ok (.invokevirtual 25, 3) := by decide +kernel
theorem dX2_times_25 : decode cX2_times 25 = .ok (.lconst 0, 1) := by decide +kernel
theorem dX2_times_26 : decode cX2_times 26 = .ok (.lcmp, 1) := by decide +kernel
theorem dX2_times_27 : decode cX2_times 27 = .ok (.ifCond .eq 13, 3) := by decide +kernel
theorem dX2_times_30 : decode cX2_times 30 = .ok (.aload_n 0, 1) := by decide +kernel
theorem dX2_times_31 : decode cX2_times 31 = .ok (.lload_n 3, 1) := by decide +kernel
theorem dX2_times_32 : decode cX2_times 32 = .ok (.invokevirtual 25, 3) := by decide +kernel
theorem dX2_times_35 : decode cX2_times 35 = .ok (.lconst 0, 1) := by decide +kernel
theorem dX2_times_36 : decode cX2_times 36 = .ok (.lcmp, 1) := by decide +kernel
theorem dX2_times_37 : decode cX2_times 37 = .ok (.ifCond .ne 7, 3) := by decide +kernel
theorem dX2_times_40 : decode cX2_times 40 = .ok (.iconst 1, 1) := by decide +kernel
theorem dX2_times_41 : decode cX2_times 41 = .ok (.goto 4, 3) := by decide +kernel
theorem dX2_times_44 : decode cX2_times 44 = .ok (.iconst 0, 1) := by decide +kernel
theorem dX2_times_45 : decode cX2_times 45 = .ok (.istore 6, 2) := by decide +kernel
theorem dX2_times_47 : decode cX2_times 47 = .ok (.aload_n 0, 1) := by decide +kernel
theorem dX2_times_48 : decode cX2_times 48 = .ok (.lload_n 1, 1) := by decide +kernel
theorem dX2_times_49 : decode cX2_times 49 = .ok (.invokevirtual 74, 3) := by decide +kernel
theorem dX2_times_52 : decode cX2_times 52 = .ok (.ifCond .ne 11, 3) := by decide +kernel
theorem dX2_times_55 : decode cX2_times 55 = .ok (.aload_n 0, 1) := by decide +kernel
theorem dX2_times_56 : decode cX2_times 56 = .ok (.lload_n 3, 1) := by decide +kernel
theorem dX2_times_57 : decode cX2_times 57 = .ok (.invokevirtual 74, 3) := by decide +kernel
theorem dX2_times_60 : decode cX2_times 60 = .ok (.ifCond .eq 26, 3) := by decide +kernel
theorem dX2_times_63 : decode cX2_times 63 = .ok (.iload 6, 2) := by decide +kernel
theorem dX2_times_65 : decode cX2_times 65 = .ok (.ifCond .eq 10, 3) := by decide +kernel
theorem dX2_times_68 : decode cX2_times 68 = .ok (.aload_n 0, 1) := by decide +kernel
theorem dX2_times_69 : decode cX2_times 69 = .ok (.getfield 21, 3) := by decide +kernel
theorem dX2_times_72 : decode cX2_times 72 = .ok (.goto 13, 3) := by decide +kernel
theorem dX2_times_75 : decode cX2_times 75 = .ok (.aload_n 0, 1) := by decide +kernel
theorem dX2_times_76 : decode cX2_times 76 = .ok (.iload 5, 2) := by decide +kernel
theorem dX2_times_78 : decode cX2_times 78 = .ok (.aload_n 0, 1) := by decide +kernel
theorem dX2_times_79 : decode cX2_times 79 = .ok (.getfield 77, 3) := by decide +kernel
theorem dX2_times_82 : decode cX2_times 82 = .ok (.invokevirtual 47, 3) := by decide +kernel
theorem dX2_times_85 : decode cX2_times 85 = .ok (.lreturn, 1) := by decide +kernel
theorem dX2_times_86 : decode cX2_times 86 = .ok (.iload 6, 2) := by decide +kernel
theorem dX2_times_88 : decode cX2_times 88 = .ok (.ifCond .eq 11, 3) := by decide +kernel
theorem dX2_times_91 : decode cX2_times 91 = .ok (.aload_n 0, 1) := by decide +kernel
theorem dX2_times_92 : decode cX2_times 92 = .ok (.iload 5, 2) := by decide +kernel
theorem dX2_times_94 : decode cX2_times 94 = .ok (.lconst 0, 1) := by decide +kernel
theorem dX2_times_95 : decode cX2_times 95 = .ok (.invokevirtual 47, 3) := by decide +kernel
theorem dX2_times_98 : decode cX2_times 98 = .ok (.lreturn, 1) := by decide +kernel
theorem dX2_times_99 : decode cX2_times 99 = .ok (.aload_n 0, 1) := by decide +kernel
theorem dX2_times_100 : decode cX2_times 100 = .ok (.lload_n 1, 1) := by decide +kernel
theorem dX2_times_101 : decode cX2_times 101 = .ok (.invokevirtual 80, 3) := by decide +kernel
theorem dX2_times_104 : decode cX2_times 104 = .ok (.lstore 7, 2) := by decide +kernel
theorem dX2_times_106 : decode cX2_times 106 = .ok (.aload_n 0, 1) := by decide +kernel
theorem dX2_times_107 : decode cX2_times 107 = .ok (.lload_n 3, 1) := by decide +kernel
theorem dX2_times_108 : decode cX2_times 108 = .ok (.invokevirtual 80, 3) := by decide +kernel
theorem dX2_times_111 : decode cX2_times 111 = .ok (.lstore 9, 2) := by decide +kernel
theorem dX2_times_113 : decode cX2_times 113 = .ok (.lload 7, 2) := by decide +kernel
theorem dX2_times_115 : decode cX2_times 115 = .ok (.invokestatic 93, 3) := by decide +kernel
theorem dX2_times_118 : decode cX2_times 118 = .ok (.bipush 11, 2) := by decide +kernel
theorem dX2_times_120 : decode cX2_times 120 = .ok (.isub, 1) := by decide +kernel
theorem dX2_times_121 : decode cX2_times 121 = .ok (.istore 11, 2) := by decide +kernel
theorem dX2_times_123 : decode cX2_times 123 = .ok (.lload 9, 2) := by decide +kernel
theorem dX2_times_125 : decode cX2_times 125 = .ok (.invokestatic 93, 3) := by decide +kernel
theorem dX2_times_128 : decode cX2_times 128 = .ok (.bipush 11, 2) := by decide +kernel
theorem dX2_times_130 : decode cX2_times 130 = .ok (.isub, 1) := by decide +kernel
theorem dX2_times_131 : decode cX2_times 131 = .ok (.istore 12, 2) := by decide +kernel
theorem dX2_times_133 : decode cX2_times 133 = .ok (.aload_n 0, 1) := by decide +kernel
theorem dX2_times_134 : decode cX2_times 134 = .ok (.lload_n 1, 1) := by decide +kernel
theorem dX2_times_135 : decode cX2_times 135 = .ok (.invokevirtual 83, 3) := by decide +kernel
theorem dX2_times_138 : decode cX2_times 138 = .ok (.iload 11, 2) := by decide +kernel
theorem dX2_times_140 : decode cX2_times 140 = .ok (.isub, 1) := by decide +kernel
theorem dX2_times_141 : decode cX2_times 141 = .ok (.aload_n 0, 1) := by decide +kernel
theorem dX2_times_142 : decode cX2_times 142 = .ok (.lload_n 3, 1) := by decide +kernel
theorem dX2_times_143 : decode cX2_times 143 = .ok (.invokevirtual 83, 3) := by decide +kernel
theorem dX2_times_146 : decode cX2_times 146 = .ok (.iadd, 1) := by decide +kernel
theorem dX2_times_147 : decode cX2_times 147 = .ok (.iload 12, 2) := by decide +kernel
theorem dX2_times_149 : decode cX2_times 149 = .ok (.isub, 1) := by decide +kernel
theorem dX2_times_150 : decode cX2_times 150 = .ok (.istore 13, 2) := by decide +kernel
theorem dX2_times_152 : decode cX2_times 152 = .ok (.lload 7, 2) := by decide +kernel
theorem dX2_times_154 : decode cX2_times 154 = .ok (.iload 11, 2) := by decide +kernel
theorem dX2_times_156 : decode cX2_times 156 = .ok (.lshl, 1) := by decide +kernel
theorem dX2_times_157 : decode cX2_times 157 = .ok (.lload 9, 2) := by decide +kernel
theorem dX2_times_159 : decode cX2_times 159 = .ok (.iload 12, 2) := by decide +kernel
theorem dX2_times_161 : decode cX2_times 161 = .ok (.lshl, 1) := by decide +kernel
theorem dX2_times_162 : decode cX2_times 162 = .ok (.invokestatic 109, 3) := by decide +kernel
theorem dX2_times_165 : decode cX2_times 165 = .ok (.lstore 14, 2) := by decide +kernel
theorem dX2_times_167 : decode cX2_times 167 = .ok (.aload_n 0, 1) := by decide +kernel
theorem dX2_times_168 : decode cX2_times 168 = .ok (.iload 5, 2) := by decide +kernel
theorem dX2_times_170 : decode cX2_times 170 = .ok (.lload 14, 2) := by decide +kernel
theorem dX2_times_172 : decode cX2_times 172 = .ok (.iload 13, 2) := by decide +kernel
theorem dX2_times_174 : decode cX2_times 174 = .ok (.bipush 44, 2) := by decide +kernel
theorem dX2_times_176 : decode cX2_times 176 = .ok (.iadd, 1) := by decide +kernel
theorem dX2_times_177 : decode cX2_times 177 = .ok (.invokevirtual 70, 3) := by decide +kernel
theorem dX2_times_180 : decode cX2_times 180 = .ok (.lreturn, 1) := by decide +kernel
theorem dX2_productTop_0 : decode cX2_productTop 0 = .ok (.ldc2_w 112, 3) := by decide +kernel
theorem dX2_productTop_3 : decode cX2_productTop 3 = .ok (.lstore 4, 2) := by decide +kernel
theorem dX2_productTop_5 : decode cX2_productTop 5 = .ok (.lload_n 0, 1) := by decide +kernel
theorem dX2_productTop_6 : decode cX2_productTop 6 = .ok (.bipush 27, 2) := by decide +kernel
theorem dX2_productTop_8 : decode cX2_productTop 8 = .ok (.lushr, 1) := by decide +kernel
theorem dX2_productTop_9 : decode cX2_productTop 9 = .ok (.lstore 6, 2) := by decide +kernel
theorem dX2_productTop_11 : decode cX2_productTop 11 = .ok (.lload_n 0, 1) := by decide +kernel
theorem dX2_productTop_12 : decode cX2_productTop 12 = .ok (.lload 4, 2) := by decide +kernel
theorem dX2_productTop_14 : decode cX2_productTop 14 = .ok (.land, 1) := by decide +kernel
theorem dX2_productTop_15 : decode cX2_productTop 15 = .ok (.lstore 8, 2) := by decide +kernel
theorem dX2_productTop_17 : decode cX2_productTop 17 = .ok (.lload_n 2, 1) := by decide +kernel
theorem dX2_productTop_18 : decode cX2_productTop 18 = .ok (.bipush 27, 2) := by decide +kernel
theorem dX2_productTop_20 : decode cX2_productTop 20 = .ok (.lushr, 1) := by decide +kernel
theorem dX2_productTop_21 : decode cX2_productTop 21 = .ok (.lstore 10, 2) := by decide +kernel
theorem dX2_productTop_23 : decode cX2_productTop 23 = .ok (.lload_n 2, 1) := by decide +kernel
theorem dX2_productTop_24 : decode cX2_productTop 24 = .ok (.lload 4, 2) := by decide +kernel
theorem dX2_productTop_26 : decode cX2_productTop 26 = .ok (.land, 1) := by decide +kernel
theorem dX2_productTop_27 : decode cX2_productTop 27 = .ok (.lstore 12, 2) := by decide +kernel
theorem dX2_productTop_29 : decode cX2_productTop 29 = .ok (.lload 8, 2) := by decide +kernel
theorem dX2_productTop_31 : decode cX2_productTop 31 = .ok (.lload 12, 2) := by decide +kernel
theorem dX2_productTop_33 : decode cX2_productTop 33 = .ok (.lmul, 1) := by decide +kernel
theorem dX2_productTop_34 : decode cX2_productTop 34 = .ok (.lstore 14, 2) := by decide +kernel
theorem dX2_productTop_36 : decode cX2_productTop 36 = .ok (.lload 6, 2) := by decide +kernel
theorem dX2_productTop_38 : decode cX2_productTop 38 = .ok (.lload 12, 2) := by decide +kernel
theorem dX2_productTop_40 : decode cX2_productTop 40 = .ok (.lmul, 1) := by decide +kernel
theorem dX2_productTop_41 : decode cX2_productTop 41 = .ok (.lload 8, 2) := by decide +kernel
theorem dX2_productTop_43 : decode cX2_productTop 43 = .ok (.lload 10, 2) := by decide +kernel
theorem dX2_productTop_45 : decode cX2_productTop 45 = .ok (.lmul, 1) := by decide +kernel
theorem dX2_productTop_46 : decode cX2_productTop 46 = .ok (.ladd, 1) := by decide +kernel
theorem dX2_productTop_47 : decode cX2_productTop 47 = .ok (.lload 14, 2) := by decide +kernel
theorem dX2_productTop_49 : decode cX2_productTop 49 = .ok (.bipush 27, 2) := by decide +kernel
theorem dX2_productTop_51 : decode cX2_productTop 51 = .ok (.lushr, 1) := by decide +kernel
theorem dX2_productTop_52 : decode cX2_productTop 52 = .ok (.ladd, 1) := by decide +kernel
theorem dX2_productTop_53 : decode cX2_productTop 53 = .ok (.lstore 16, 2) := by decide +kernel
theorem dX2_productTop_55 : decode cX2_productTop 55 = .ok (.lload 6, 2) := by decide +kernel
theorem dX2_productTop_57 : decode cX2_productTop 57 = .ok (.lload 10, 2) := by decide +kernel
theorem dX2_productTop_59 : decode cX2_productTop 59 = .ok (.lmul, 1) := by decide +kernel
theorem dX2_productTop_60 : decode cX2_productTop 60 = .ok (.bipush 10, 2) := by decide +kernel
theorem dX2_productTop_62 : decode cX2_productTop 62 = .ok (.lshl, 1) := by decide +kernel
theorem dX2_productTop_63 : decode cX2_productTop 63 = .ok (.lload 16, 2) := by decide +kernel
theorem dX2_productTop_65 : decode cX2_productTop 65 = .ok (.bipush 17, 2) := by decide +kernel
theorem dX2_productTop_67 : decode cX2_productTop 67 = .ok (.lushr, 1) := by decide +kernel
theorem dX2_productTop_68 : decode cX2_productTop 68 = .ok (.ladd, 1) := by decide +kernel
theorem dX2_productTop_69 : decode cX2_productTop 69 = .ok (.lstore 18, 2) := by decide +kernel
theorem dX2_productTop_71 : decode cX2_productTop 71 = .ok (.lload 14, 2) := by decide +kernel
theorem dX2_productTop_73 : decode cX2_productTop 73 = .ok (.lload 4, 2) := by decide +kernel
theorem dX2_productTop_75 : decode cX2_productTop 75 = .ok (.land, 1) := by decide +kernel
theorem dX2_productTop_76 : decode cX2_productTop 76 = .ok (.lconst 0, 1) := by decide +kernel
theorem dX2_productTop_77 : decode cX2_productTop 77 = .ok (.lcmp, 1) := by decide +kernel
theorem dX2_productTop_78 : decode cX2_productTop 78 = .ok (.ifCond .ne 18, 3) := by decide +kernel
theorem dX2_productTop_81 : decode cX2_productTop 81 = .ok (.lload 16, 2) := by decide +kernel
theorem dX2_productTop_83 : decode cX2_productTop 83 = .ok (.ldc2_w 114, 3) := by decide +kernel
theorem dX2_productTop_86 : decode cX2_productTop 86 = .ok (.land, 1) := by decide +kernel
theorem dX2_productTop_87 : decode cX2_productTop 87 = .ok (.lconst 0, 1) := by decide +kernel
theorem dX2_productTop_88 : decode cX2_productTop 88 = .ok (.lcmp, 1) := by decide +kernel
theorem dX2_productTop_89 : decode cX2_productTop 89 = .ok (.ifCond .ne 7, 3) := by decide +kernel
theorem dX2_productTop_92 : decode cX2_productTop 92 = .ok (.iconst 1, 1) := by decide +kernel
theorem dX2_productTop_93 : decode cX2_productTop 93 = .ok (.goto 4, 3) := by decide +kernel
theorem dX2_productTop_96 : decode cX2_productTop 96 = .ok (.iconst 0, 1) := by decide +kernel
theorem dX2_productTop_97 : decode cX2_productTop 97 = .ok (.istore 20, 2) := by decide +kernel
theorem dX2_productTop_99 : decode cX2_productTop 99 = .ok (.iload 20, 2) := by decide +kernel
theorem dX2_productTop_101 : decode cX2_productTop 101 = .ok (.ifCond .eq 8, 3) := by decide +kernel
theorem dX2_productTop_104 : decode cX2_productTop 104 = .ok (.lload 18, 2) := by decide +kernel
theorem dX2_productTop_106 : decode cX2_productTop 106 = .ok (.goto 7, 3) := by decide +kernel
theorem dX2_productTop_109 : decode cX2_productTop 109 = .ok (.lload 18, 2) := by decide +kernel
theorem dX2_productTop_111 : decode cX2_productTop 111 = .ok (.lconst 1, 1) := by decide +kernel
theorem dX2_productTop_112 : decode cX2_productTop 112 = .ok (.lor, 1) := by decide +kernel
theorem dX2_productTop_113 : decode cX2_productTop 113 = .ok (.lreturn, 1) := by decide +kernel
theorem dX2_over_0 : decode cX2_over 0 = .ok (.aload_n 0, 1) := by decide +kernel
theorem dX2_over_1 : decode cX2_over 1 = .ok (.lload_n 1, 1) := by decide +kernel
theorem dX2_over_2 : decode cX2_over 2 = .ok (.invokevirtual 40, 3) := by decide +kernel
theorem dX2_over_5 : decode cX2_over 5 = .ok (.aload_n 0, 1) := by decide +kernel
theorem dX2_over_6 : decode cX2_over 6 = .ok (.lload_n 3, 1) := by decide +kernel
theorem dX2_over_7 : decode cX2_over 7 = .ok (.invokevirtual 40, 3) := by decide +kernel
theorem dX2_over_10 : decode cX2_over 10 = .ok (.if_icmp .eq 7, 3) := by decide +kernel
theorem dX2_over_13 : decode cX2_over 13 = .ok (.iconst 1, 1) := by decide +kernel
theorem dX2_over_14 : decode cX2_over 14 = .ok (.goto 4, 3) := by decide +kernel
theorem dX2_over_17 : decode cX2_over 17 = .ok (.iconst 0, 1) := by decide +kernel
theorem dX2_over_18 : decode cX2_over 18 = .ok (.istore 5, 2) := by decide +kernel
theorem dX2_over_20 : decode cX2_over 20 = .ok (.aload_n 0, 1) := by decide +kernel
theorem dX2_over_21 : decode cX2_over 21 = .ok (.lload_n 1, 1) := by decide +kernel
theorem dX2_over_22 : decode cX2_over 22 = .ok (.invokevirtual 74, 3) := by decide +kernel
theorem dX2_over_25 : decode cX2_over 25 = .ok (.ifCond .eq 29, 3) := by decide +kernel
theorem dX2_over_28 : decode cX2_over 28 = .ok (.aload_n 0, 1) := by decide +kernel
theorem dX2_over_29 : decode cX2_over 29 = .ok (.lload_n 3, 1) := by decide +kernel
theorem dX2_over_30 : decode cX2_over 30 = .ok (.invokevirtual 74, 3) := by decide +kernel
theorem dX2_over_33 : decode cX2_over 33 = .ok (.ifCond .eq 10, 3) := by decide +kernel
theorem dX2_over_36 : decode cX2_over 36 = .ok (.aload_n 0, 1) := by decide +kernel
theorem dX2_over_37 : decode cX2_over 37 = .ok (.getfield 21, 3) := by decide +kernel
theorem dX2_over_40 : decode cX2_over 40 = .ok (.goto 13, 3) := by decide +kernel
theorem dX2_over_43 : decode cX2_over 43 = .ok (.aload_n 0, 1) := by decide +kernel
theorem dX2_over_44 : decode cX2_over 44 = .ok (.iload 5, 2) := by decide +kernel
theorem dX2_over_46 : decode cX2_over 46 = .ok (.aload_n 0, 1) := by decide +kernel
theorem dX2_over_47 : decode cX2_over 47 = .ok (.getfield 77, 3) := by decide +kernel
theorem dX2_over_50 : decode cX2_over 50 = .ok (.invokevirtual 47, 3) := by decide +kernel
theorem dX2_over_53 : decode cX2_over 53 = .ok (.lreturn, 1) := by decide +kernel
theorem dX2_over_54 : decode cX2_over 54 = .ok (.aload_n 0, 1) := by decide +kernel
theorem dX2_over_55 : decode cX2_over 55 = .ok (.lload_n 3, 1) := by decide +kernel
theorem dX2_over_56 : decode cX2_over 56 = .ok (.invokevirtual 74, 3) := by decide +kernel
theorem dX2_over_59 : decode cX2_over 59 = .ok (.ifCond .eq 11, 3) := by decide +kernel
theorem dX2_over_62 : decode cX2_over 62 = .ok (.aload_n 0, 1) := by decide +kernel
theorem dX2_over_63 : decode cX2_over 63 = .ok (.iload 5, 2) := by decide +kernel
theorem dX2_over_65 : decode cX2_over 65 = .ok (.lconst 0, 1) := by decide +kernel
theorem dX2_over_66 : decode cX2_over 66 = .ok (.invokevirtual 47, 3) := by decide +kernel
theorem dX2_over_69 : decode cX2_over 69 = .ok (.lreturn, 1) := by decide +kernel
theorem dX2_over_70 : decode cX2_over 70 = .ok (.aload_n 0, 1) := by decide +kernel
theorem dX2_over_71 : decode cX2_over 71 = .ok (.lload_n 1, 1) := by decide +kernel
theorem dX2_over_72 : decode cX2_over 72 = .ok (.invokevirtual 80, 3) := by decide +kernel
theorem dX2_over_75 : decode cX2_over 75 = .ok (.lstore 6, 2) := by decide +kernel
theorem dX2_over_77 : decode cX2_over 77 = .ok (.aload_n 0, 1) := by decide +kernel
theorem dX2_over_78 : decode cX2_over 78 = .ok (.lload_n 3, 1) := by decide +kernel
theorem dX2_over_79 : decode cX2_over 79 = .ok (.invokevirtual 80, 3) := by decide +kernel
theorem dX2_over_82 : decode cX2_over 82 = .ok (.lstore 8, 2) := by decide +kernel
theorem dX2_over_84 : decode cX2_over 84 = .ok (.lload 8, 2) := by decide +kernel
theorem dX2_over_86 : decode cX2_over 86 = .ok (.lconst 0, 1) := by decide +kernel
theorem dX2_over_87 : decode cX2_over 87 = .ok (.lcmp, 1) := by decide +kernel
theorem dX2_over_88 : decode cX2_over 88 = .ok (.ifCond .ne 28, 3) := by decide +kernel
theorem dX2_over_91 : decode cX2_over 91 = .ok (.lload 6, 2) := by decide +kernel
theorem dX2_over_93 : decode cX2_over 93 = .ok (.lconst 0, 1) := by decide +kernel
theorem dX2_over_94 : decode cX2_over 94 = .ok (.lcmp, 1) := by decide +kernel
theorem dX2_over_95 : decode cX2_over 95 = .ok (.ifCond .ne 10, 3) := by decide +kernel
theorem dX2_over_98 : decode cX2_over 98 = .ok (.aload_n 0, 1) := by decide +kernel
theorem dX2_over_99 : decode cX2_over 99 = .ok (.getfield 21, 3) := by decide +kernel
theorem dX2_over_102 : decode cX2_over 102 = .ok (.goto 13, 3) := by decide +kernel
theorem dX2_over_105 : decode cX2_over 105 = .ok (.aload_n 0, 1) := by decide +kernel
theorem dX2_over_106 : decode cX2_over 106 = .ok (.iload 5, 2) := by decide +kernel
theorem dX2_over_108 : decode cX2_over 108 = .ok (.aload_n 0, 1) := by decide +kernel
theorem dX2_over_109 : decode cX2_over 109 = .ok (.getfield 77, 3) := by decide +kernel
theorem dX2_over_112 : decode cX2_over 112 = .ok (.invokevirtual 47, 3) := by decide +kernel
theorem dX2_over_115 : decode cX2_over 115 = .ok (.lreturn, 1) := by decide +kernel
theorem dX2_over_116 : decode cX2_over 116 = .ok (.lload 6, 2) := by decide +kernel
theorem dX2_over_118 : decode cX2_over 118 = .ok (.lconst 0, 1) := by decide +kernel
theorem dX2_over_119 : decode cX2_over 119 = .ok (.lcmp, 1) := by decide +kernel
theorem dX2_over_120 : decode cX2_over 120 = .ok (.ifCond .ne 11, 3) := by decide +kernel
theorem dX2_over_123 : decode cX2_over 123 = .ok (.aload_n 0, 1) := by decide +kernel
theorem dX2_over_124 : decode cX2_over 124 = .ok (.iload 5, 2) := by decide +kernel
theorem dX2_over_126 : decode cX2_over 126 = .ok (.lconst 0, 1) := by decide +kernel
theorem dX2_over_127 : decode cX2_over 127 = .ok (.invokevirtual 47, 3) := by decide +kernel
theorem dX2_over_130 : decode cX2_over 130 = .ok (.lreturn, 1) := by decide +kernel
theorem dX2_over_131 : decode cX2_over 131 = .ok (.lload 6, 2) := by decide +kernel
theorem dX2_over_133 : decode cX2_over 133 = .ok (.invokestatic 93, 3) := by decide +kernel
theorem dX2_over_136 : decode cX2_over 136 = .ok (.bipush 11, 2) := by decide +kernel
theorem dX2_over_138 : decode cX2_over 138 = .ok (.isub, 1) := by decide +kernel
theorem dX2_over_139 : decode cX2_over 139 = .ok (.istore 10, 2) := by decide +kernel
theorem dX2_over_141 : decode cX2_over 141 = .ok (.lload 8, 2) := by decide +kernel
theorem dX2_over_143 : decode cX2_over 143 = .ok (.invokestatic 93, 3) := by decide +kernel
theorem dX2_over_146 : decode cX2_over 146 = .ok (.bipush 11, 2) := by decide +kernel
theorem dX2_over_148 : decode cX2_over 148 = .ok (.isub, 1) := by decide +kernel
theorem dX2_over_149 : decode cX2_over 149 = .ok (.istore 11, 2) := by decide +kernel
theorem dX2_over_151 : decode cX2_over 151 = .ok (.aload_n 0, 1) := by decide +kernel
theorem dX2_over_152 : decode cX2_over 152 = .ok (.lload_n 1, 1) := by decide +kernel
theorem dX2_over_153 : decode cX2_over 153 = .ok (.invokevirtual 83, 3) := by decide +kernel
theorem dX2_over_156 : decode cX2_over 156 = .ok (.iload 10, 2) := by decide +kernel
theorem dX2_over_158 : decode cX2_over 158 = .ok (.isub, 1) := by decide +kernel
theorem dX2_over_159 : decode cX2_over 159 = .ok (.aload_n 0, 1) := by decide +kernel
theorem dX2_over_160 : decode cX2_over 160 = .ok (.lload_n 3, 1) := by decide +kernel
theorem dX2_over_161 : decode cX2_over 161 = .ok (.invokevirtual 83, 3) := by decide +kernel
theorem dX2_over_164 : decode cX2_over 164 = .ok (.iload 11, 2) := by decide +kernel
theorem dX2_over_166 : decode cX2_over 166 = .ok (.isub, 1) := by decide +kernel
theorem dX2_over_167 : decode cX2_over 167 = .ok (.isub, 1) := by decide +kernel
theorem dX2_over_168 : decode cX2_over 168 = .ok (.istore 12, 2) := by decide +kernel
theorem dX2_over_170 : decode cX2_over 170 = .ok (.lload 6, 2) := by decide +kernel
theorem dX2_over_172 : decode cX2_over 172 = .ok (.iload 10, 2) := by decide +kernel
theorem dX2_over_174 : decode cX2_over 174 = .ok (.lshl, 1) := by decide +kernel
theorem dX2_over_175 : decode cX2_over 175 = .ok (.lload 8, 2) := by decide +kernel
theorem dX2_over_177 : decode cX2_over 177 = .ok (.iload 11, 2) := by decide +kernel
theorem dX2_over_179 : decode cX2_over 179 = .ok (.lshl, 1) := by decide +kernel
theorem dX2_over_180 : decode cX2_over 180 = .ok (.invokestatic 116, 3) := by decide +kernel
theorem dX2_over_183 : decode cX2_over 183 = .ok (.lstore 13, 2) := by decide +kernel
theorem dX2_over_185 : decode cX2_over 185 = .ok (.aload_n 0, 1) := by decide +kernel
theorem dX2_over_186 : decode cX2_over 186 = .ok (.iload 5, 2) := by decide +kernel
theorem dX2_over_188 : decode cX2_over 188 = .ok (.lload 13, 2) := by decide +kernel
theorem dX2_over_190 : decode cX2_over 190 = .ok (.iload 12, 2) := by decide +kernel
theorem dX2_over_192 : decode cX2_over 192 = .ok (.bipush 60, 2) := by decide +kernel
theorem dX2_over_194 : decode cX2_over 194 = .ok (.isub, 1) := by decide +kernel
theorem dX2_over_195 : decode cX2_over 195 = .ok (.invokevirtual 70, 3) := by decide +kernel
theorem dX2_over_198 : decode cX2_over 198 = .ok (.lreturn, 1) := by decide +kernel
theorem dX2_quotientOf_0 : decode cX2_quotientOf 0 = .ok (.lload_n 2, 1) := by decide +kernel
theorem dX2_quotientOf_1 : decode cX2_quotientOf 1 = .ok (.lconst 0, 1) := by decide +kernel
theorem dX2_quotientOf_2 : decode cX2_quotientOf 2 = .ok (.lcmp, 1) := by decide +kernel
theorem dX2_quotientOf_3 : decode cX2_quotientOf 3 = .ok (.ifCond .ne 5, 3) := by decide +kernel
theorem dX2_quotientOf_6 : decode cX2_quotientOf 6 = .ok (.lconst 0, 1) := by decide +kernel
theorem dX2_quotientOf_7 : decode cX2_quotientOf 7 = .ok (.lreturn, 1) := by decide +kernel
theorem dX2_quotientOf_8 : decode cX2_quotientOf 8 = .ok (.lload_n 0, 1) := by decide +kernel
theorem dX2_quotientOf_9 : decode cX2_quotientOf 9 = .ok (.lload_n 2, 1) := by decide +kernel
theorem dX2_quotientOf_10 : decode cX2_quotientOf 10 = .ok (.ldiv, 1) := by decide +kernel
theorem dX2_quotientOf_11 : decode cX2_quotientOf 11 = .ok (.lstore 4, 2) := by decide +kernel
theorem dX2_quotientOf_13 : decode cX2_quotientOf 13 = .ok (.lload_n 0, 1) := by decide +kernel
theorem dX2_quotientOf_14 : decode cX2_quotientOf 14 = .ok (.lload_n 2, 1) := by decide +kernel
theorem dX2_quotientOf_15 : decode cX2_quotientOf 15 = .ok (.lrem, 1) := by decide +kernel
theorem dX2_quotientOf_16 : decode cX2_quotientOf 16 = .ok (.lstore 6, 2) := by decide +kernel
theorem dX2_quotientOf_18 : decode cX2_quotientOf 18 = .ok (.iconst 0, 1) := by decide +kernel
theorem dX2_quotientOf_19 : decode cX2_quotientOf 19 = .ok (.istore 8, 2) := by decide +kernel
theorem dX2_quotientOf_21 : decode cX2_quotientOf 21 = .ok (.iload 8, 2) := by decide +kernel
theorem dX2_quotientOf_23 : decode cX2_quotientOf 23 = .ok (.bipush 6, 2) := by decide +kernel
theorem dX2_quotientOf_25 : decode cX2_quotientOf 25 = .ok (.if_icmp .ge 34, 3) := by decide +kernel
theorem dX2_quotientOf_28 : decode cX2_quotientOf 28 = .ok (.lload 6, 2) := by decide +kernel
theorem dX2_quotientOf_30 : decode cX2_quotientOf 30 = .ok (.bipush 10, 2) := by decide +kernel
theorem dX2_quotientOf_32 : decode cX2_quotientOf 32 = .ok (.lshl, 1) := by decide +kernel
theorem dX2_quotientOf_33 : decode cX2_quotientOf 33 = .ok (.lstore 9, 2) := by decide +kernel
theorem dX2_quotientOf_35 : decode cX2_quotientOf 35 = .ok (.lload 4, 2) := by decide +kernel
theorem dX2_quotientOf_37 : decode cX2_quotientOf 37 = .ok (.bipush 10, 2) := by decide +kernel
theorem dX2_quotientOf_39 : decode cX2_quotientOf 39 = .ok (.lshl, 1) := by decide +kernel
theorem dX2_quotientOf_40 : decode cX2_quotientOf 40 = .ok (.lload 9, 2) := by decide +kernel
theorem dX2_quotientOf_42 : decode cX2_quotientOf 42 = .ok (.lload_n 2, 1) := by decide +kernel
theorem dX2_quotientOf_43 : decode cX2_quotientOf 43 = .ok (.ldiv, 1) := by decide +kernel
theorem dX2_quotientOf_44 : decode cX2_quotientOf 44 = .ok (.ladd, 1) := by decide +kernel
theorem dX2_quotientOf_45 : decode cX2_quotientOf 45 = .ok (.lstore 4, 2) := by decide +kernel
theorem dX2_quotientOf_47 : decode cX2_quotientOf 47 = .ok (.lload 9, 2) := by decide +kernel
theorem dX2_quotientOf_49 : decode cX2_quotientOf 49 = .ok (.lload_n 2, 1) := by decide +kernel
theorem dX2_quotientOf_50 : decode cX2_quotientOf 50 = .ok (.lrem, 1) := by decide +kernel
theorem dX2_quotientOf_51 : decode cX2_quotientOf 51 = .ok (.lstore 6, 2) := by decide +kernel
theorem dX2_quotientOf_53 : decode cX2_quotientOf 53 = .ok (.iinc 8 1, 3) := by decide +kernel
theorem dX2_quotientOf_56 : decode cX2_quotientOf 56 = .ok (.goto (-35), 3) := by decide +kernel
theorem dX2_quotientOf_59 : decode cX2_quotientOf 59 = .ok (.lload 6, 2) := by decide +kernel
theorem dX2_quotientOf_61 : decode cX2_quotientOf 61 = .ok (.lconst 0, 1) := by decide +kernel
theorem dX2_quotientOf_62 : decode cX2_quotientOf 62 = .ok (.lcmp, 1) := by decide +kernel
theorem dX2_quotientOf_63 : decode cX2_quotientOf 63 = .ok (.ifCond .ne 8, 3) := by decide +kernel
theorem dX2_quotientOf_66 : decode cX2_quotientOf 66 = .ok (.lload 4, 2) := by decide +kernel
theorem dX2_quotientOf_68 : decode cX2_quotientOf 68 = .ok (.goto 7, 3) := by decide +kernel
theorem dX2_quotientOf_71 : decode cX2_quotientOf 71 = .ok (.lload 4, 2) := by decide +kernel
theorem dX2_quotientOf_73 : decode cX2_quotientOf 73 = .ok (.lconst 1, 1) := by decide +kernel
theorem dX2_quotientOf_74 : decode cX2_quotientOf 74 = .ok (.lor, 1) := by decide +kernel
theorem dX2_quotientOf_75 : decode cX2_quotientOf 75 = .ok (.lreturn, 1) := by decide +kernel
theorem dX2_remainder_0 : decode cX2_remainder 0 = .ok (.aload_n 0, 1) := by decide +kernel
theorem dX2_remainder_1 : decode cX2_remainder 1 = .ok (.lload_n 3, 1) := by decide +kernel
theorem dX2_remainder_2 : decode cX2_remainder 2 = .ok (.invokevirtual 80, 3) := by decide +kernel
theorem dX2_remainder_5 : decode cX2_remainder 5 = .ok (.lstore 5, 2) := by decide +kernel
theorem dX2_remainder_7 : decode cX2_remainder 7 = .ok (.aload_n 0, 1) := by decide +kernel
theorem dX2_remainder_8 : decode cX2_remainder 8 = .ok (.lload_n 1, 1) := by decide +kernel
theorem dX2_remainder_9 : decode cX2_remainder 9 = .ok (.invokevirtual 74, 3) := by decide +kernel
theorem dX2_remainder_12 : decode cX2_remainder 12 = .ok (.ifCond .ne 10, 3) := by decide +kernel
theorem dX2_remainder_15 : decode cX2_remainder 15 = .ok (.lload 5, 2) := by decide +kernel
theorem dX2_remainder_17 : decode cX2_remainder 17 = .ok (.lconst 0, 1) := by decide +kernel
theorem dX2_remainder_18 : decode cX2_remainder 18 = .ok (.lcmp, 1) := by decide +kernel
theorem dX2_remainder_19 : decode cX2_remainder 19 = .ok (.ifCond .ne 8, 3) := by decide +kernel
theorem dX2_remainder_22 : decode cX2_remainder 22 = .ok (.aload_n 0, 1) := by decide +kernel
theorem dX2_remainder_23 : decode cX2_remainder 23 = .ok (.getfield 21, 3) := by decide +kernel
theorem dX2_remainder_26 : decode cX2_remainder 26 = .ok (.lreturn, 1) := by decide +kernel
theorem dX2_remainder_27 : decode cX2_remainder 27 = .ok (.aload_n 0, 1) := by decide +kernel
theorem dX2_remainder_28 : decode cX2_remainder 28 = .ok (.lload_n 3, 1) := by decide +kernel
theorem dX2_remainder_29 : decode cX2_remainder 29 = .ok (.invokevirtual 74, 3) := by decide +kernel
theorem dX2_remainder_32 : decode cX2_remainder 32 = .ok (.ifCond .ne 17, 3) := by decide +kernel
theorem dX2_remainder_35 : decode cX2_remainder 35 = .ok (.aload_n 0, 1) := by decide +kernel
theorem dX2_remainder_36 : decode cX2_remainder 36 = .ok (.lload_n 1, 1) := by decide +kernel
theorem dX2_remainder_37 : decode cX2_remainder 37 = .ok (.invokevirtual 25, 3) := by decide +kernel
theorem dX2_remainder_40 : decode cX2_remainder 40 = .ok (.aload_n 0, 1) := by decide +kernel
theorem dX2_remainder_41 : decode cX2_remainder 41 = .ok (.lload_n 3, 1) := by decide +kernel
theorem dX2_remainder_42 : decode cX2_remainder 42 = .ok (.invokevirtual 25, 3) := by decide +kernel
theorem dX2_remainder_45 : decode cX2_remainder 45 = .ok (.lcmp, 1) := by decide +kernel
theorem dX2_remainder_46 : decode cX2_remainder 46 = .ok (.ifCond .ge 5, 3) := by decide +kernel
theorem dX2_remainder_49 : decode cX2_remainder 49 = .ok (.lload_n 1, 1) := by decide +kernel
theorem dX2_remainder_50 : decode cX2_remainder 50 = .ok (.lreturn, 1) := by decide +kernel
theorem dX2_remainder_51 : decode cX2_remainder 51 = .ok (.aload_n 0, 1) := by decide +kernel
theorem dX2_remainder_52 : decode cX2_remainder 52 = .ok (.lload_n 1, 1) := by decide +kernel
theorem dX2_remainder_53 : decode cX2_remainder 53 = .ok (.invokevirtual 80, 3) := by decide +kernel
theorem dX2_remainder_56 : decode cX2_remainder 56 = .ok (.lload 5, 2) := by decide +kernel
theorem dX2_remainder_58 : decode cX2_remainder 58 = .ok (.lrem, 1) := by decide +kernel
theorem dX2_remainder_59 : decode cX2_remainder 59 = .ok (.lstore 7, 2) := by decide +kernel
theorem dX2_remainder_61 : decode cX2_remainder 61 = .ok (.aload_n 0, 1) := by decide +kernel
theorem dX2_remainder_62 : decode cX2_remainder 62 = .ok (.lload_n 1, 1) := by decide +kernel
theorem dX2_remainder_63 : decode cX2_remainder 63 = .ok (.invokevirtual 83, 3) := by decide +kernel
theorem dX2_remainder_66 : decode cX2_remainder 66 = .ok (.aload_n 0, 1) := by decide +kernel
theorem dX2_remainder_67 : decode cX2_remainder 67 = .ok (.lload_n 3, 1) := by decide +kernel
theorem dX2_remainder_68 : decode cX2_remainder 68 = .ok (.invokevirtual 83, 3) := by decide +kernel
theorem dX2_remainder_71 : decode cX2_remainder 71 = .ok (.isub, 1) := by decide +kernel
theorem dX2_remainder_72 : decode cX2_remainder 72 = .ok (.istore 9, 2) := by decide +kernel
theorem dX2_remainder_74 : decode cX2_remainder 74 = .ok (.iload 9, 2) := by decide +kernel
theorem dX2_remainder_76 : decode cX2_remainder 76 = .ok (.istore 10, 2) := by decide +kernel
theorem dX2_remainder_78 : decode cX2_remainder 78 = .ok (.iload 10, 2) := by decide +kernel
theorem dX2_remainder_80 : decode cX2_remainder 80 = .ok (.ifCond .le 24, 3) := by decide +kernel
theorem dX2_remainder_83 : decode cX2_remainder 83 = .ok (.lload 7, 2) := by decide +kernel
theorem dX2_remainder_85 : decode cX2_remainder 85 = .ok (.iload 10, 2) := by decide +kernel
theorem dX2_remainder_87 : decode cX2_remainder 87 = .ok (.bipush 10, 2) := by decide +kernel
theorem dX2_remainder_89 : decode cX2_remainder 89 = .ok (.invokestatic 87, 3) := by decide +kernel
theorem dX2_remainder_92 : decode cX2_remainder 92 = .ok (.lshl, 1) := by decide +kernel
theorem dX2_remainder_93 : decode cX2_remainder 93 = .ok (.lload 5, 2) := by decide +kernel
theorem dX2_remainder_95 : decode cX2_remainder 95 = .ok (.lrem, 1) := by decide +kernel
theorem dX2_remainder_96 : decode cX2_remainder 96 = .ok (.lstore 7, 2) := by decide +kernel
theorem dX2_remainder_98 : decode cX2_remainder 98 = .ok (.iinc 10 (-10), 3) := by decide +kernel
theorem dX2_remainder_101 : decode cX2_remainder 101 = .ok (.goto (-23), 3) := by decide +kernel
theorem dX2_remainder_104 : decode cX2_remainder 104 = .ok (.aload_n 0, 1) := by decide +kernel
theorem dX2_remainder_105 : decode cX2_remainder 105 = .ok (.aload_n 0, 1) := by decide +kernel
theorem dX2_remainder_106 : decode cX2_remainder 106 = .ok (.lload_n 1, 1) := by decide +kernel
theorem dX2_remainder_107 : decode cX2_remainder 107 = .ok (.invokevirtual 40, 3) := by decide +kernel
theorem dX2_remainder_110 : decode cX2_remainder 110 = .ok (.lload 7, 2) := by decide +kernel
theorem dX2_remainder_112 : decode cX2_remainder 112 = .ok (.aload_n 0, 1) := by decide +kernel
theorem dX2_remainder_113 : decode cX2_remainder 113 = .ok (.lload_n 3, 1) := by decide +kernel
theorem dX2_remainder_114 : decode cX2_remainder 114 = .ok (.invokevirtual 83, 3) := by decide +kernel
theorem dX2_remainder_117 : decode cX2_remainder 117 = .ok (.invokevirtual 70, 3) := by decide +kernel
theorem dX2_remainder_120 : decode cX2_remainder 120 = .ok (.lreturn, 1) := by decide +kernel
theorem dX3_init_0 : decode cX3_init 0 = .ok (.aload_n 0, 1) := by decide +kernel
theorem dX3_init_1 : decode cX3_init 1 = .ok (.invokespecial 3, 3) := by decide +kernel
theorem dX3_init_4 : decode cX3_init 4 = .ok (.aload_n 0, 1) := by decide +kernel
theorem dX3_init_5 : decode cX3_init 5 = .ok (.aload_n 1, 1) := by decide +kernel
theorem dX3_init_6 : decode cX3_init 6 = .ok (.putfield 9, 3) := by decide +kernel
theorem dX3_init_9 : decode cX3_init 9 = .ok (.aload_n 0, 1) := by decide +kernel
theorem dX3_init_10 : decode cX3_init 10 = .ok (.iload_n 2, 1) := by decide +kernel
theorem dX3_init_11 : decode cX3_init 11 = .ok (.newarray .long, 2) := by decide +kernel
theorem dX3_init_13 : decode cX3_init 13 = .ok (.putfield 15, 3) := by decide +kernel
theorem dX3_init_16 : decode cX3_init 16 = .ok (.return_, 1) := by decide +kernel
theorem dX3_has_0 : decode cX3_has 0 = .ok (.iload_n 1, 1) := by decide +kernel
theorem dX3_has_1 : decode cX3_has 1 = .ok (.ifCond .lt 16, 3) := by decide +kernel
theorem dX3_has_4 : decode cX3_has 4 = .ok (.iload_n 1, 1) := by decide +kernel
theorem dX3_has_5 : decode cX3_has 5 = .ok (.aload_n 0, 1) := by decide +kernel
theorem dX3_has_6 : decode cX3_has 6 = .ok (.getfield 15, 3) := by decide +kernel
theorem dX3_has_9 : decode cX3_has 9 = .ok (.arraylength, 1) := by decide +kernel
theorem dX3_has_10 : decode cX3_has 10 = .ok (.if_icmp .ge 7, 3) := by decide +kernel
theorem dX3_has_13 : decode cX3_has 13 = .ok (.iconst 1, 1) := by decide +kernel
theorem dX3_has_14 : decode cX3_has 14 = .ok (.goto 4, 3) := by decide +kernel
theorem dX3_has_17 : decode cX3_has 17 = .ok (.iconst 0, 1) := by decide +kernel
theorem dX3_has_18 : decode cX3_has 18 = .ok (.ireturn, 1) := by decide +kernel
theorem dX3_hasPair_0 : decode cX3_hasPair 0 = .ok (.iload_n 1, 1) := by decide +kernel
theorem dX3_hasPair_1 : decode cX3_hasPair 1 = .ok (.ifCond .lt 18, 3) := by decide +kernel
theorem dX3_hasPair_4 : decode cX3_hasPair 4 = .ok (.iload_n 1, 1) := by decide +kernel
theorem dX3_hasPair_5 : decode cX3_hasPair 5 = .ok (.aload_n 0, 1) := by decide +kernel
theorem dX3_hasPair_6 : decode cX3_hasPair 6 = .ok (.getfield 15, 3) := by decide +kernel
theorem dX3_hasPair_9 : decode cX3_hasPair 9 = .ok (.arraylength, 1) := by decide +kernel
theorem dX3_hasPair_10 : decode cX3_hasPair 10 = .ok (.iconst 2, 1) := by decide +kernel
theorem dX3_hasPair_11 : decode cX3_hasPair 11 = .ok (.idiv, 1) := by decide +kernel
theorem dX3_hasPair_12 : decode cX3_hasPair 12 = .ok (.if_icmp .ge 7, 3) := by decide +kernel
theorem dX3_hasPair_15 : decode cX3_hasPair 15 = .ok (.iconst 1, 1) := by decide +kernel
theorem dX3_hasPair_16 : decode cX3_hasPair 16 = .ok (.goto 4, 3) := by decide +kernel
theorem dX3_hasPair_19 : decode cX3_hasPair 19 = .ok (.iconst 0, 1) := by decide +kernel
theorem dX3_hasPair_20 : decode cX3_hasPair 20 = .ok (.ireturn, 1) := by decide +kernel
theorem dX3_put_0 : decode cX3_put 0 = .ok (.aload_n 0, 1) := by decide +kernel
theorem dX3_put_1 : decode cX3_put 1 = .ok (.getfield 15, 3) := by decide +kernel
theorem dX3_put_4 : decode cX3_put 4 = .ok (.iload_n 1, 1) := by decide +kernel
theorem dX3_put_5 : decode cX3_put 5 = .ok (.lload_n 2, 1) := by decide +kernel
theorem dX3_put_6 : decode cX3_put 6 = .ok (.lastore, 1) := by decide +kernel
theorem dX3_put_7 : decode cX3_put 7 = .ok (.aload_n 0, 1) := by decide +kernel
theorem dX3_put_8 : decode cX3_put 8 = .ok (.getfield 9, 3) := by decide +kernel
theorem dX3_put_11 : decode cX3_put 11 = .ok (.lload_n 2, 1) := by decide +kernel
theorem dX3_put_12 : decode cX3_put 12 = .ok (.invokevirtual 19, 3) := by decide +kernel
theorem dX3_put_15 : decode cX3_put 15 = .ok (.ireturn, 1) := by decide +kernel
theorem dX3_pair_0 : decode cX3_pair 0 = .ok (.new 25, 3) := by decide +kernel
theorem dX3_pair_3 : decode cX3_pair 3 = .ok (.dup, 1) := by decide +kernel
theorem dX3_pair_4 : decode cX3_pair 4 = .ok (.aload_n 0, 1) := by decide +kernel
theorem dX3_pair_5 : decode cX3_pair 5 = .ok (.getfield 9, 3) := by decide +kernel
theorem dX3_pair_8 : decode cX3_pair 8 = .ok (.aload_n 0, 1) := by decide +kernel
theorem dX3_pair_9 : decode cX3_pair 9 = .ok (.getfield 15, 3) := by decide +kernel
theorem dX3_pair_12 : decode cX3_pair 12 = .ok (.iconst 2, 1) := by decide +kernel
theorem dX3_pair_13 : decode cX3_pair 13 = .ok (.iload_n 1, 1) := by decide +kernel
theorem dX3_pair_14 : decode cX3_pair 14 = .ok (.imul, 1) := by decide +kernel
theorem dX3_pair_15 : decode cX3_pair 15 = .ok (.laload, 1) := by decide +kernel
theorem dX3_pair_16 : decode cX3_pair 16 = .ok (.aload_n 0, 1) := by decide +kernel
theorem dX3_pair_17 : decode cX3_pair 17 = .ok (.getfield 15, 3) := by decide +kernel
theorem dX3_pair_20 : decode cX3_pair 20 = .ok (.iconst 2, 1) := by decide +kernel
theorem dX3_pair_21 : decode cX3_pair 21 = .ok (.iload_n 1, 1) := by decide +kernel
theorem dX3_pair_22 : decode cX3_pair 22 = .ok (.imul, 1) := by decide +kernel
theorem dX3_pair_23 : decode cX3_pair 23 = .ok (.iconst 1, 1) := by decide +kernel
theorem dX3_pair_24 : decode cX3_pair 24 = .ok (.iadd, 1) := by decide +kernel
theorem dX3_pair_25 : decode cX3_pair 25 = .ok (.laload, 1) := by decide +kernel
theorem dX3_pair_26 : decode cX3_pair 26 = .ok (.invokespecial 27, 3) := by decide +kernel
theorem dX3_pair_29 : decode cX3_pair 29 = .ok (.areturn, 1) := by decide +kernel
theorem dX3_putPair_0 : decode cX3_putPair 0 = .ok (.aload_n 0, 1) := by decide +kernel
theorem dX3_putPair_1 : decode cX3_putPair 1 = .ok (.getfield 15, 3) := by decide +kernel
theorem dX3_putPair_4 : decode cX3_putPair 4 = .ok (.iconst 2, 1) := by decide +kernel
theorem dX3_putPair_5 : decode cX3_putPair 5 = .ok (.iload_n 1, 1) := by decide +kernel
theorem dX3_putPair_6 : decode cX3_putPair 6 = .ok (.imul, 1) := by decide +kernel
theorem dX3_putPair_7 : decode cX3_putPair 7 = .ok (.aload_n 2, 1) := by decide +kernel
theorem dX3_putPair_8 : decode cX3_putPair 8 = .ok (.getfield 30, 3) := by decide +kernel
theorem dX3_putPair_11 : decode cX3_putPair 11 = .ok (.lastore, 1) := by decide +kernel
theorem dX3_putPair_12 : decode cX3_putPair 12 = .ok (.aload_n 0, 1) := by decide +kernel
theorem dX3_putPair_13 : decode cX3_putPair 13 = .ok (.getfield 15, 3) := by decide +kernel
theorem dX3_putPair_16 : decode cX3_putPair 16 = .ok (.iconst 2, 1) := by decide +kernel
theorem dX3_putPair_17 : decode cX3_putPair 17 = .ok (.iload_n 1, 1) := by decide +kernel
theorem dX3_putPair_18 : decode cX3_putPair 18 = .ok (.imul, 1) := by decide +kernel
theorem dX3_putPair_19 : decode cX3_putPair 19 = .ok (.iconst 1, 1) := by decide +kernel
theorem dX3_putPair_20 : decode cX3_putPair 20 = .ok (.iadd, 1) := by decide +kernel
theorem dX3_putPair_21 : decode cX3_putPair 21 = .ok (.aload_n 2, 1) := by decide +kernel
theorem dX3_putPair_22 : decode cX3_putPair 22 = .ok (.getfield 34, 3) := by decide +kernel
theorem dX3_putPair_25 : decode cX3_putPair 25 = .ok (.lastore, 1) := by decide +kernel
theorem dX3_putPair_26 : decode cX3_putPair 26 = .ok (.return_, 1) := by decide +kernel
theorem dX4_init_0 : decode cX4_init 0 = .ok (.aload_n 0, 1) := by decide +kernel
theorem dX4_init_1 : decode cX4_init 1 = .ok (.invokespecial 3, 3) := by decide +kernel
theorem dX4_init_4 : decode cX4_init 4 = .ok (.aload_n 0, 1) := by decide +kernel
theorem dX4_init_5 : decode cX4_init 5 = .ok (.sipush 500, 3) := by decide +kernel
theorem dX4_init_8 : decode cX4_init 8 = .ok (.newarray .long, 2) := by decide +kernel
theorem dX4_init_10 : decode cX4_init 10 = .ok (.putfield 9, 3) := by decide +kernel
theorem dX4_init_13 : decode cX4_init 13 = .ok (.aload_n 0, 1) := by decide +kernel
theorem dX4_init_14 : decode cX4_init 14 = .ok (.sipush 500, 3) := by decide +kernel
theorem dX4_init_17 : decode cX4_init 17 = .ok (.newarray .long, 2) := by decide +kernel
theorem dX4_init_19 : decode cX4_init 19 = .ok (.putfield 15, 3) := by decide +kernel
theorem dX4_init_22 : decode cX4_init 22 = .ok (.return_, 1) := by decide +kernel
theorem dX6_init_0 : decode cX6_init 0 = .ok (.aload_n 0, 1) := by decide +kernel
theorem dX6_init_1 : decode cX6_init 1 = .ok (.invokespecial 3, 3) := by decide +kernel
theorem dX6_init_4 : decode cX6_init 4 = .ok (.aload_n 0, 1) := by decide +kernel
theorem dX6_init_5 : decode cX6_init 5 = .ok (.bipush 64, 2) := by decide +kernel
theorem dX6_init_7 : decode cX6_init 7 = .ok (.anewarray 9, 3) := by decide +kernel
theorem dX6_init_10 : decode cX6_init 10 = .ok (.putfield 11, 3) := by decide +kernel
theorem dX6_init_13 : decode cX6_init 13 = .ok (.aload_n 0, 1) := by decide +kernel
theorem dX6_init_14 : decode cX6_init 14 = .ok (.new 15, 3) := by decide +kernel
theorem dX6_init_17 : decode cX6_init 17 = .ok (.dup, 1) := by decide +kernel
theorem dX6_init_18 : decode cX6_init 18 = .ok (.invokespecial 17, 3) := by decide +kernel
theorem dX6_init_21 : decode cX6_init 21 = .ok (.putfield 18, 3) := by decide +kernel
theorem dX6_init_24 : decode cX6_init 24 = .ok (.aload_n 0, 1) := by decide +kernel
theorem dX6_init_25 : decode cX6_init 25 = .ok (.iconst 0, 1) := by decide +kernel
theorem dX6_init_26 : decode cX6_init 26 = .ok (.putfield 22, 3) := by decide +kernel
theorem dX6_init_29 : decode cX6_init 29 = .ok (.aload_n 0, 1) := by decide +kernel
theorem dX6_init_30 : decode cX6_init 30 = .ok (.iconst 0, 1) := by decide +kernel
theorem dX6_init_31 : decode cX6_init 31 = .ok (.putfield 26, 3) := by decide +kernel
theorem dX6_init_34 : decode cX6_init 34 = .ok (.aload_n 0, 1) := by decide +kernel
theorem dX6_init_35 : decode cX6_init 35 = .ok (.iconst 0, 1) := by decide +kernel
theorem dX6_init_36 : decode cX6_init 36 = .ok (.putfield 29, 3) := by decide +kernel
theorem dX6_init_39 : decode cX6_init 39 = .ok (.return_, 1) := by decide +kernel
theorem dX6_row_0 : decode cX6_row 0 = .ok (.iload_n 1, 1) := by decide +kernel
theorem dX6_row_1 : decode cX6_row 1 = .ok (.iconst 1, 1) := by decide +kernel
theorem dX6_row_2 : decode cX6_row 2 = .ok (.if_icmp .lt 10, 3) := by decide +kernel
theorem dX6_row_5 : decode cX6_row 5 = .ok (.iload_n 1, 1) := by decide +kernel
theorem dX6_row_6 : decode cX6_row 6 = .ok (.sipush 500, 3) := by decide +kernel
theorem dX6_row_9 : decode cX6_row 9 = .ok (.if_icmp .le 9, 3) := by decide +kernel
theorem dX6_row_12 : decode cX6_row 12 = .ok (.aload_n 0, 1) := by decide +kernel
theorem dX6_row_13 : decode cX6_row 13 = .ok (.iconst 2, 1) := by decide +kernel
theorem dX6_row_14 : decode cX6_row 14 = .ok (.invokevirtual 32, 3) := by decide +kernel
theorem dX6_row_17 : decode cX6_row 17 = .ok (.ireturn, 1) := by decide +kernel
theorem dX6_row_18 : decode cX6_row 18 = .ok (.aload_n 0, 1) := by decide +kernel
theorem dX6_row_19 : decode cX6_row 19 = .ok (.getfield 22, 3) := by decide +kernel
theorem dX6_row_22 : decode cX6_row 22 = .ok (.bipush 64, 2) := by decide +kernel
theorem dX6_row_24 : decode cX6_row 24 = .ok (.if_icmp .ge 15, 3) := by decide +kernel
theorem dX6_row_27 : decode cX6_row 27 = .ok (.iload_n 1, 1) := by decide +kernel
theorem dX6_row_28 : decode cX6_row 28 = .ok (.sipush 4000, 3) := by decide +kernel
theorem dX6_row_31 : decode cX6_row 31 = .ok (.aload_n 0, 1) := by decide +kernel
theorem dX6_row_32 : decode cX6_row 32 = .ok (.getfield 26, 3) := by decide +kernel
theorem dX6_row_35 : decode cX6_row 35 = .ok (.isub, 1) := by decide +kernel
theorem dX6_row_36 : decode cX6_row 36 = .ok (.if_icmp .le 9, 3) := by decide +kernel
theorem dX6_row_39 : decode cX6_row 39 = .ok (.aload_n 0, 1) := by decide +kernel
theorem dX6_row_40 : decode cX6_row 40 = .ok (.iconst 5, 1) := by decide +kernel
theorem dX6_row_41 : decode cX6_row 41 = .ok (.invokevirtual 32, 3) := by decide +kernel
theorem dX6_row_44 : decode cX6_row 44 = .ok (.ireturn, 1) := by decide +kernel
theorem dX6_row_45 : decode cX6_row 45 = .ok (.aload_n 0, 1) := by decide +kernel
theorem dX6_row_46 : decode cX6_row 46 = .ok (.getfield 22, 3) := by decide +kernel
theorem dX6_row_49 : decode cX6_row 49 = .ok (.istore_n 3, 1) := by decide +kernel
theorem dX6_row_50 : decode cX6_row 50 = .ok (.aload_n 0, 1) := by decide +kernel
theorem dX6_row_51 : decode cX6_row 51 = .ok (.getfield 11, 3) := by decide +kernel
theorem dX6_row_54 : decode cX6_row 54 = .ok (.iload_n 3, 1) := by decide +kernel
theorem dX6_row_55 : decode cX6_row 55 = .ok (.new 9, 3) := by decide +kernel
theorem dX6_row_58 : decode cX6_row 58 = .ok (.dup, 1) := by decide +kernel
theorem dX6_row_59 : decode cX6_row 59 = .ok (.iload_n 2, 1) := by decide +kernel
theorem dX6_row_60 : decode cX6_row 60 = .ok (.ifCond .eq 9, 3) := by decide +kernel
theorem dX6_row_63 : decode cX6_row 63 = .ok (.getstatic 36, 3) := by decide +kernel
theorem dX6_row_66 : decode cX6_row 66 = .ok (.goto 6, 3) := by decide +kernel
theorem dX6_row_69 : decode cX6_row 69 = .ok (.getstatic 42, 3) := by decide +kernel
theorem dX6_row_72 : decode cX6_row 72 = .ok (.iload_n 1, 1) := by decide +kernel
theorem dX6_row_73 : decode cX6_row 73 = .ok (.invokespecial 45, 3) := by decide +kernel
theorem dX6_row_76 : decode cX6_row 76 = .ok (.aastore, 1) := by decide +kernel
theorem dX6_row_77 : decode cX6_row 77 = .ok (.aload_n 0, 1) := by decide +kernel
theorem dX6_row_78 : decode cX6_row 78 = .ok (.dup, 1) := by decide +kernel
theorem dX6_row_79 : decode cX6_row 79 = .ok (.getfield 22, 3) := by decide +kernel
theorem dX6_row_82 : decode cX6_row 82 = .ok (.iconst 1, 1) := by decide +kernel
theorem dX6_row_83 : decode cX6_row 83 = .ok (.iadd, 1) := by decide +kernel
theorem dX6_row_84 : decode cX6_row 84 = .ok (.putfield 22, 3) := by decide +kernel
theorem dX6_row_87 : decode cX6_row 87 = .ok (.aload_n 0, 1) := by decide +kernel
theorem dX6_row_88 : decode cX6_row 88 = .ok (.dup, 1) := by decide +kernel
theorem dX6_row_89 : decode cX6_row 89 = .ok (.getfield 26, 3) := by decide +kernel
theorem dX6_row_92 : decode cX6_row 92 = .ok (.iload_n 1, 1) := by decide +kernel
theorem dX6_row_93 : decode cX6_row 93 = .ok (.iadd, 1) := by decide +kernel
theorem dX6_row_94 : decode cX6_row 94 = .ok (.putfield 26, 3) := by decide +kernel
theorem dX6_row_97 : decode cX6_row 97 = .ok (.aload_n 0, 1) := by decide +kernel
theorem dX6_row_98 : decode cX6_row 98 = .ok (.iload_n 3, 1) := by decide +kernel
theorem dX6_row_99 : decode cX6_row 99 = .ok (.invokevirtual 48, 3) := by decide +kernel
theorem dX6_row_102 : decode cX6_row 102 = .ok (.ireturn, 1) := by decide +kernel
theorem dX6_set_0 : decode cX6_set 0 = .ok (.aload_n 0, 1) := by decide +kernel
theorem dX6_set_1 : decode cX6_set 1 = .ok (.iload_n 1, 1) := by decide +kernel
theorem dX6_set_2 : decode cX6_set 2 = .ok (.invokevirtual 51, 3) := by decide +kernel
theorem dX6_set_5 : decode cX6_set 5 = .ok (.astore 5, 2) := by decide +kernel
theorem dX6_set_7 : decode cX6_set 7 = .ok (.aload 5, 2) := by decide +kernel
theorem dX6_set_9 : decode cX6_set 9 = .ok (.ifnonnull 9, 3) := by decide +kernel
theorem dX6_set_12 : decode cX6_set 12 = .ok (.aload_n 0, 1) := by decide +kernel
theorem dX6_set_13 : decode cX6_set 13 = .ok (.iconst 1, 1) := by decide +kernel
theorem dX6_set_14 : decode cX6_set 14 = .ok (.invokevirtual 32, 3) := by decide +kernel
theorem dX6_set_17 : decode cX6_set 17 = .ok (.ireturn, 1) := by decide +kernel
theorem dX6_set_18 : decode cX6_set 18 = .ok (.aload 5, 2) := by decide +kernel
theorem dX6_set_20 : decode cX6_set 20 = .ok (.iload_n 2, 1) := by decide +kernel
theorem dX6_set_21 : decode cX6_set 21 = .ok (.invokevirtual 55, 3) := by decide +kernel
theorem dX6_set_24 : decode cX6_set 24 = .ok (.ifCond .ne 9, 3) := by decide +kernel
theorem dX6_set_27 : decode cX6_set 27 = .ok (.aload_n 0, 1) := by decide +kernel
theorem dX6_set_28 : decode cX6_set 28 = .ok (.iconst 2, 1) := by decide +kernel
theorem dX6_set_29 : decode cX6_set 29 = .ok (.invokevirtual 32, 3) := by decide +kernel
theorem dX6_set_32 : decode cX6_set 32 = .ok (.ireturn, 1) := by decide +kernel
theorem dX6_set_33 : decode cX6_set 33 = .ok (.aload_n 0, 1) := by decide +kernel
theorem dX6_set_34 : decode cX6_set 34 = .ok (.aload 5, 2) := by decide +kernel
theorem dX6_set_36 : decode cX6_set 36 = .ok (.iload_n 2, 1) := by decide +kernel
theorem dX6_set_37 : decode cX6_set 37 = .ok (.aload 5, 2) := by decide +kernel
theorem dX6_set_39 : decode cX6_set 39 = .ok (.getfield 59, 3) := by decide +kernel
theorem dX6_set_42 : decode cX6_set 42 = .ok (.lload_n 3, 1) := by decide +kernel
theorem dX6_set_43 : decode cX6_set 43 = .ok (.invokevirtual 62, 3) := by decide +kernel
theorem dX6_set_46 : decode cX6_set 46 = .ok (.invokevirtual 66, 3) := by decide +kernel
theorem dX6_set_49 : decode cX6_set 49 = .ok (.invokevirtual 48, 3) := by decide +kernel
theorem dX6_set_52 : decode cX6_set 52 = .ok (.ireturn, 1) := by decide +kernel
theorem dX6_get_0 : decode cX6_get 0 = .ok (.aload_n 0, 1) := by decide +kernel
theorem dX6_get_1 : decode cX6_get 1 = .ok (.iload_n 1, 1) := by decide +kernel
theorem dX6_get_2 : decode cX6_get 2 = .ok (.invokevirtual 51, 3) := by decide +kernel
theorem dX6_get_5 : decode cX6_get 5 = .ok (.astore_n 3, 1) := by decide +kernel
theorem dX6_get_6 : decode cX6_get 6 = .ok (.aload_n 3, 1) := by decide +kernel
theorem dX6_get_7 : decode cX6_get 7 = .ok (.ifnonnull 9, 3) := by decide +kernel
theorem dX6_get_10 : decode cX6_get 10 = .ok (.aload_n 0, 1) := by decide +kernel
theorem dX6_get_11 : decode cX6_get 11 = .ok (.iconst 1, 1) := by decide +kernel
theorem dX6_get_12 : decode cX6_get 12 = .ok (.invokevirtual 76, 3) := by decide +kernel
theorem dX6_get_15 : decode cX6_get 15 = .ok (.lreturn, 1) := by decide +kernel
theorem dX6_get_16 : decode cX6_get 16 = .ok (.aload_n 3, 1) := by decide +kernel
theorem dX6_get_17 : decode cX6_get 17 = .ok (.iload_n 2, 1) := by decide +kernel
theorem dX6_get_18 : decode cX6_get 18 = .ok (.invokevirtual 55, 3) := by decide +kernel
theorem dX6_get_21 : decode cX6_get 21 = .ok (.ifCond .ne 9, 3) := by decide +kernel
theorem dX6_get_24 : decode cX6_get 24 = .ok (.aload_n 0, 1) := by decide +kernel
theorem dX6_get_25 : decode cX6_get 25 = .ok (.iconst 2, 1) := by decide +kernel
theorem dX6_get_26 : decode cX6_get 26 = .ok (.invokevirtual 76, 3) := by decide +kernel
theorem dX6_get_29 : decode cX6_get 29 = .ok (.lreturn, 1) := by decide +kernel
theorem dX6_get_30 : decode cX6_get 30 = .ok (.aload_n 0, 1) := by decide +kernel
theorem dX6_get_31 : decode cX6_get 31 = .ok (.aload_n 3, 1) := by decide +kernel
theorem dX6_get_32 : decode cX6_get 32 = .ok (.getfield 80, 3) := by decide +kernel
theorem dX6_get_35 : decode cX6_get 35 = .ok (.iload_n 2, 1) := by decide +kernel
theorem dX6_get_36 : decode cX6_get 36 = .ok (.laload, 1) := by decide +kernel
theorem dX6_get_37 : decode cX6_get 37 = .ok (.invokevirtual 84, 3) := by decide +kernel
theorem dX6_get_40 : decode cX6_get 40 = .ok (.lreturn, 1) := by decide +kernel
theorem dX6_compare_0 : decode cX6_compare 0 = .ok (.aload_n 0, 1) := by decide +kernel
theorem dX6_compare_1 : decode cX6_compare 1 = .ok (.iload_n 1, 1) := by decide +kernel
theorem dX6_compare_2 : decode cX6_compare 2 = .ok (.invokevirtual 51, 3) := by decide +kernel
theorem dX6_compare_5 : decode cX6_compare 5 = .ok (.astore 4, 2) := by decide +kernel
theorem dX6_compare_7 : decode cX6_compare 7 = .ok (.aload 4, 2) := by decide +kernel
theorem dX6_compare_9 : decode cX6_compare 9 = .ok (.ifnonnull 9, 3) := by decide +kernel
theorem dX6_compare_12 : decode cX6_compare 12 = .ok (.aload_n 0, 1) := by decide +kernel
theorem dX6_compare_13 : decode cX6_compare 13 = .ok (.iconst 1, 1) := by decide +kernel
theorem dX6_compare_14 : decode cX6_compare 14 = .ok (.invokevirtual 32, 3) := by decide +kernel
theorem dX6_compare_17 : decode cX6_compare 17 = .ok (.ireturn, 1) := by decide +kernel
theorem dX6_compare_18 : decode cX6_compare 18 = .ok (.aload 4, 2) := by decide +kernel
theorem dX6_compare_20 : decode cX6_compare 20 = .ok (.iload_n 2, 1) := by decide +kernel
theorem dX6_compare_21 : decode cX6_compare 21 = .ok (.invokevirtual 55, 3) := by decide +kernel
theorem dX6_compare_24 : decode cX6_compare 24 = .ok (.ifCond .eq 12, 3) := by decide +kernel
theorem dX6_compare_27 : decode cX6_compare 27 = .ok (.aload 4, 2) := by decide +kernel
theorem dX6_compare_29 : decode cX6_compare 29 = .ok (.iload_n 3, 1) := by decide +kernel
theorem dX6_compare_30 : decode cX6_compare 30 = .ok (.invokevirtual 55, 3) := by decide +kernel
theorem dX6_compare_33 : decode cX6_compare 33 = .ok (.ifCond .ne 9, 3) := by decide +kernel
theorem dX6_compare_36 : decode cX6_compare 36 = .ok (.aload_n 0, 1) := by decide +kernel
theorem dX6_compare_37 : decode cX6_compare 37 = .ok (.iconst 2, 1) := by decide +kernel
theorem dX6_compare_38 : decode cX6_compare 38 = .ok (.invokevirtual 32, 3) := by decide +kernel
theorem dX6_compare_41 : decode cX6_compare 41 = .ok (.ireturn, 1) := by decide +kernel
theorem dX6_compare_42 : decode cX6_compare 42 = .ok (.aload_n 0, 1) := by decide +kernel
theorem dX6_compare_43 : decode cX6_compare 43 = .ok (.aload 4, 2) := by decide +kernel
theorem dX6_compare_45 : decode cX6_compare 45 = .ok (.getfield 59, 3) := by decide +kernel
theorem dX6_compare_48 : decode cX6_compare 48 = .ok (.aload 4, 2) := by decide +kernel
theorem dX6_compare_50 : decode cX6_compare 50 = .ok (.getfield 80, 3) := by decide +kernel
theorem dX6_compare_53 : decode cX6_compare 53 = .ok (.iload_n 2, 1) := by decide +kernel
theorem dX6_compare_54 : decode cX6_compare 54 = .ok (.laload, 1) := by decide +kernel
theorem dX6_compare_55 : decode cX6_compare 55 = .ok (.aload 4, 2) := by decide +kernel
theorem dX6_compare_57 : decode cX6_compare 57 = .ok (.getfield 80, 3) := by decide +kernel
theorem dX6_compare_60 : decode cX6_compare 60 = .ok (.iload_n 3, 1) := by decide +kernel
theorem dX6_compare_61 : decode cX6_compare 61 = .ok (.laload, 1) := by decide +kernel
theorem dX6_compare_62 : decode cX6_compare 62 = .ok (.invokevirtual 103, 3) := by decide +kernel
theorem dX6_compare_65 : decode cX6_compare 65 = .ok (.invokevirtual 48, 3) := by decide +kernel
theorem dX6_compare_68 : decode cX6_compare 68 = .ok (.ireturn, 1) := by decide +kernel
theorem dX6_between_0 : decode cX6_between 0 = .ok (.aload_n 0, 1) := by decide +kernel
theorem dX6_between_1 : decode cX6_between 1 = .ok (.iload_n 1, 1) := by decide +kernel
theorem dX6_between_2 : decode cX6_between 2 = .ok (.invokevirtual 51, 3) := by decide +kernel
theorem dX6_between_5 : decode cX6_between 5 = .ok (.astore 5, 2) := by decide +kernel
theorem dX6_between_7 : decode cX6_between 7 = .ok (.aload 5, 2) := by decide +kernel
theorem dX6_between_9 : decode cX6_between 9 = .ok (.ifnonnull 9, 3) := by decide +kernel
theorem dX6_between_12 : decode cX6_between 12 = .ok (.aload_n 0, 1) := by decide +kernel
theorem dX6_between_13 : decode cX6_between 13 = .ok (.iconst 1, 1) := by decide +kernel
theorem dX6_between_14 : decode cX6_between 14 = .ok (.invokevirtual 32, 3) := by decide +kernel
theorem dX6_between_17 : decode cX6_between 17 = .ok (.ireturn, 1) := by decide +kernel
theorem dX6_between_18 : decode cX6_between 18 = .ok (.aload 5, 2) := by decide +kernel
theorem dX6_between_20 : decode cX6_between 20 = .ok (.iload_n 2, 1) := by decide +kernel
theorem dX6_between_21 : decode cX6_between 21 = .ok (.invokevirtual 55, 3) := by decide +kernel
theorem dX6_between_24 : decode cX6_between 24 = .ok (.ifCond .eq 22, 3) := by decide +kernel
theorem dX6_between_27 : decode cX6_between 27 = .ok (.aload 5, 2) := by decide +kernel
theorem dX6_between_29 : decode cX6_between 29 = .ok (.iload_n 3, 1) := by decide +kernel
theorem dX6_between_30 : decode cX6_between 30 = .ok (.invokevirtual 55, 3) := by decide +kernel
theorem dX6_between_33 : decode cX6_between 33 = .ok (.ifCond .eq 13, 3) := by decide +kernel
theorem dX6_between_36 : decode cX6_between 36 = .ok (.aload 5, 2) := by decide +kernel
theorem dX6_between_38 : decode cX6_between 38 = .ok (.iload 4, 2) := by decide +kernel
theorem dX6_between_40 : decode cX6_between 40 = .ok (.invokevirtual 55, 3) := by decide +kernel
theorem dX6_between_43 : decode cX6_between 43 = .ok (.ifCond .ne 9, 3) := by decide +kernel
theorem dX6_between_46 : decode cX6_between 46 = .ok (.aload_n 0, 1) := by decide +kernel
theorem dX6_between_47 : decode cX6_between 47 = .ok (.iconst 2, 1) := by decide +kernel
theorem dX6_between_48 : decode cX6_between 48 = .ok (.invokevirtual 32, 3) := by decide +kernel
theorem dX6_between_51 : decode cX6_between 51 = .ok (.ireturn, 1) := by decide +kernel
theorem dX6_between_52 : decode cX6_between 52 = .ok (.aload 5, 2) := by decide +kernel
theorem dX6_between_54 : decode cX6_between 54 = .ok (.getfield 59, 3) := by decide +kernel
theorem dX6_between_57 : decode cX6_between 57 = .ok (.astore 6, 2) := by decide +kernel
theorem dX6_between_59 : decode cX6_between 59 = .ok (.aload 5, 2) := by decide +kernel
theorem dX6_between_61 : decode cX6_between 61 = .ok (.getfield 80, 3) := by decide +kernel
theorem dX6_between_64 : decode cX6_between 64 = .ok (.iload_n 2, 1) := by decide +kernel
theorem dX6_between_65 : decode cX6_between 65 = .ok (.laload, 1) := by decide +kernel
theorem dX6_between_66 : decode cX6_between 66 = .ok (.lstore 7, 2) := by decide +kernel
theorem dX6_between_68 : decode cX6_between 68 = .ok (.aload 5, 2) := by decide +kernel
theorem dX6_between_70 : decode cX6_between 70 = .ok (.getfield 80, 3) := by decide +kernel
theorem dX6_between_73 : decode cX6_between 73 = .ok (.iload_n 3, 1) := by decide +kernel
theorem dX6_between_74 : decode cX6_between 74 = .ok (.laload, 1) := by decide +kernel
theorem dX6_between_75 : decode cX6_between 75 = .ok (.lstore 9, 2) := by decide +kernel
theorem dX6_between_77 : decode cX6_between 77 = .ok (.aload 5, 2) := by decide +kernel
theorem dX6_between_79 : decode cX6_between 79 = .ok (.getfield 80, 3) := by decide +kernel
theorem dX6_between_82 : decode cX6_between 82 = .ok (.iload 4, 2) := by decide +kernel
theorem dX6_between_84 : decode cX6_between 84 = .ok (.laload, 1) := by decide +kernel
theorem dX6_between_85 : decode cX6_between 85 = .ok (.lstore 11, 2) := by decide +kernel
theorem dX6_between_87 : decode cX6_between 87 = .ok (.aload 6, 2) := by decide +kernel
theorem dX6_between_89 : decode cX6_between 89 = .ok (.lload 9, 2) := by decide +kernel
theorem dX6_between_91 : decode cX6_between 91 = .ok (.lload 7, 2) := by decide +kernel
theorem dX6_between_93 : decode cX6_between 93 = .ok (.invokevirtual 107, 3) := by decide +kernel
theorem dX6_between_96 : decode cX6_between 96 = .ok (.ifCond .eq 19, 3) := by decide +kernel
theorem dX6_between_99 : decode cX6_between 99 = .ok (.aload 6, 2) := by decide +kernel
theorem dX6_between_101 : decode cX6_between 101 = .ok (.lload 7, 2) := by decide +kernel
theorem dX6_between_103 : decode cX6_between 103 = .ok (.lload 11, 2) := by decide +kernel
theorem dX6_between_105 : decode cX6_between 105 = .ok (.invokevirtual 107, 3) := by decide +kernel
theorem dX6_between_108 : decode cX6_between 108 = .ok (.ifCond .eq 7, 3) := by decide +kernel
theorem dX6_between_111 : decode cX6_between 111 = .ok (.iconst 1, 1) := by decide +kernel
theorem dX6_between_112 : decode cX6_between 112 = .ok (.goto 4, 3) := by decide +kernel
theorem dX6_between_115 : decode cX6_between 115 = .ok (.iconst 0, 1) := by decide +kernel
theorem dX6_between_116 : decode cX6_between 116 = .ok (.istore 13, 2) := by decide +kernel
theorem dX6_between_118 : decode cX6_between 118 = .ok (.aload 6, 2) := by decide +kernel
theorem dX6_between_120 : decode cX6_between 120 = .ok (.lload 7, 2) := by decide +kernel
theorem dX6_between_122 : decode cX6_between 122 = .ok (.lload 9, 2) := by decide +kernel
theorem dX6_between_124 : decode cX6_between 124 = .ok (.invokevirtual 111, 3) := by decide +kernel
theorem dX6_between_127 : decode cX6_between 127 = .ok (.ifCond .ne 15, 3) := by decide +kernel
theorem dX6_between_130 : decode cX6_between 130 = .ok (.aload 6, 2) := by decide +kernel
theorem dX6_between_132 : decode cX6_between 132 = .ok (.lload 11, 2) := by decide +kernel
theorem dX6_between_134 : decode cX6_between 134 = .ok (.lload 7, 2) := by decide +kernel
theorem dX6_between_136 : decode cX6_between 136 = .ok (.invokevirtual 111, 3) := by decide +kernel
theorem dX6_between_139 : decode cX6_between 139 = .ok (.ifCond .eq 7, 3) := by decide +kernel
theorem dX6_between_142 : decode cX6_between 142 = .ok (.iconst 0, 1) := by decide +kernel
theorem dX6_between_143 : decode cX6_between 143 = .ok (.goto 4, 3) := by decide +kernel
theorem dX6_between_146 : decode cX6_between 146 = .ok (.iconst 2, 1) := by decide +kernel
theorem dX6_between_147 : decode cX6_between 147 = .ok (.istore 14, 2) := by decide +kernel
theorem dX6_between_149 : decode cX6_between 149 = .ok (.aload_n 0, 1) := by decide +kernel
theorem dX6_between_150 : decode cX6_between 150 = .ok (.iload 13, 2) := by decide +kernel
theorem dX6_between_152 : decode cX6_between 152 = .ok (.iload 14, 2) := by decide +kernel
theorem dX6_between_154 : decode cX6_between 154 = .ok (.iadd, 1) := by decide +kernel
theorem dX6_between_155 : decode cX6_between 155 = .ok (.invokevirtual 48, 3) := by decide +kernel
theorem dX6_between_158 : decode cX6_between 158 = .ok (.ireturn, 1) := by decide +kernel
theorem dX6_total_0 : decode cX6_total 0 = .ok (.aload_n 0, 1) := by decide +kernel
theorem dX6_total_1 : decode cX6_total 1 = .ok (.iload_n 1, 1) := by decide +kernel
theorem dX6_total_2 : decode cX6_total 2 = .ok (.invokevirtual 51, 3) := by decide +kernel
theorem dX6_total_5 : decode cX6_total 5 = .ok (.astore 4, 2) := by decide +kernel
theorem dX6_total_7 : decode cX6_total 7 = .ok (.aload 4, 2) := by decide +kernel
theorem dX6_total_9 : decode cX6_total 9 = .ok (.ifnonnull 9, 3) := by decide +kernel
theorem dX6_total_12 : decode cX6_total 12 = .ok (.aload_n 0, 1) := by decide +kernel
theorem dX6_total_13 : decode cX6_total 13 = .ok (.iconst 1, 1) := by decide +kernel
theorem dX6_total_14 : decode cX6_total 14 = .ok (.invokevirtual 32, 3) := by decide +kernel
theorem dX6_total_17 : decode cX6_total 17 = .ok (.ireturn, 1) := by decide +kernel
theorem dX6_total_18 : decode cX6_total 18 = .ok (.aload 4, 2) := by decide +kernel
theorem dX6_total_20 : decode cX6_total 20 = .ok (.iload_n 2, 1) := by decide +kernel
theorem dX6_total_21 : decode cX6_total 21 = .ok (.invokevirtual 55, 3) := by decide +kernel
theorem dX6_total_24 : decode cX6_total 24 = .ok (.ifCond .eq 12, 3) := by decide +kernel
theorem dX6_total_27 : decode cX6_total 27 = .ok (.aload 4, 2) := by decide +kernel
theorem dX6_total_29 : decode cX6_total 29 = .ok (.iload_n 3, 1) := by decide +kernel
theorem dX6_total_30 : decode cX6_total 30 = .ok (.invokevirtual 55, 3) := by decide +kernel
theorem dX6_total_33 : decode cX6_total 33 = .ok (.ifCond .ne 9, 3) := by decide +kernel
theorem dX6_total_36 : decode cX6_total 36 = .ok (.aload_n 0, 1) := by decide +kernel
theorem dX6_total_37 : decode cX6_total 37 = .ok (.iconst 2, 1) := by decide +kernel
theorem dX6_total_38 : decode cX6_total 38 = .ok (.invokevirtual 32, 3) := by decide +kernel
theorem dX6_total_41 : decode cX6_total 41 = .ok (.ireturn, 1) := by decide +kernel
theorem dX6_total_42 : decode cX6_total 42 = .ok (.aload 4, 2) := by decide +kernel
theorem dX6_total_44 : decode cX6_total 44 = .ok (.getfield 59, 3) := by decide +kernel
theorem dX6_total_47 : decode cX6_total 47 = .ok (.aload 4, 2) := by decide +kernel
theorem dX6_total_49 : decode cX6_total 49 = .ok (.getfield 80, 3) := by decide +kernel
theorem dX6_total_52 : decode cX6_total 52 = .ok (.iload_n 2, 1) := by decide +kernel
theorem dX6_total_53 : decode cX6_total 53 = .ok (.laload, 1) := by decide +kernel
theorem dX6_total_54 : decode cX6_total 54 = .ok (.invokevirtual 114, 3) := by decide +kernel
theorem dX6_total_57 : decode cX6_total 57 = .ok (.lstore 5, 2) := by decide +kernel
theorem dX6_total_59 : decode cX6_total 59 = .ok (.aload 4, 2) := by decide +kernel
theorem dX6_total_61 : decode cX6_total 61 = .ok (.getfield 59, 3) := by decide +kernel
theorem dX6_total_64 : decode cX6_total 64 = .ok (.aload 4, 2) := by decide +kernel
theorem dX6_total_66 : decode cX6_total 66 = .ok (.getfield 80, 3) := by decide +kernel
theorem dX6_total_69 : decode cX6_total 69 = .ok (.iload_n 3, 1) := by decide +kernel
theorem dX6_total_70 : decode cX6_total 70 = .ok (.laload, 1) := by decide +kernel
theorem dX6_total_71 : decode cX6_total 71 = .ok (.invokevirtual 114, 3) := by decide +kernel
theorem dX6_total_74 : decode cX6_total 74 = .ok (.lstore 7, 2) := by decide +kernel
theorem dX6_total_76 : decode cX6_total 76 = .ok (.aload_n 0, 1) := by decide +kernel
theorem dX6_total_77 : decode cX6_total 77 = .ok (.lload 5, 2) := by decide +kernel
theorem dX6_total_79 : decode cX6_total 79 = .ok (.lload 7, 2) := by decide +kernel
theorem dX6_total_81 : decode cX6_total 81 = .ok (.lcmp, 1) := by decide +kernel
theorem dX6_total_82 : decode cX6_total 82 = .ok (.ifCond .ge 7, 3) := by decide +kernel
theorem dX6_total_85 : decode cX6_total 85 = .ok (.iconst (-1), 1) := by decide +kernel
theorem dX6_total_86 : decode cX6_total 86 = .ok (.goto 16, 3) := by decide +kernel
theorem dX6_total_89 : decode cX6_total 89 = .ok (.lload 5, 2) := by decide +kernel
theorem dX6_total_91 : decode cX6_total 91 = .ok (.lload 7, 2) := by decide +kernel
theorem dX6_total_93 : decode cX6_total 93 = .ok (.lcmp, 1) := by decide +kernel
theorem dX6_total_94 : decode cX6_total 94 = .ok (.ifCond .le 7, 3) := by decide +kernel
theorem dX6_total_97 : decode cX6_total 97 = .ok (.iconst 1, 1) := by decide +kernel
theorem dX6_total_98 : decode cX6_total 98 = .ok (.goto 4, 3) := by decide +kernel
theorem dX6_total_101 : decode cX6_total 101 = .ok (.iconst 0, 1) := by decide +kernel
theorem dX6_total_102 : decode cX6_total 102 = .ok (.invokevirtual 48, 3) := by decide +kernel
theorem dX6_total_105 : decode cX6_total 105 = .ok (.ireturn, 1) := by decide +kernel
theorem dX6_act_0 : decode cX6_act 0 = .ok (.aload_n 0, 1) := by decide +kernel
theorem dX6_act_1 : decode cX6_act 1 = .ok (.iload_n 1, 1) := by decide +kernel
theorem dX6_act_2 : decode cX6_act 2 = .ok (.invokevirtual 51, 3) := by decide +kernel
theorem dX6_act_5 : decode cX6_act 5 = .ok (.astore 6, 2) := by decide +kernel
theorem dX6_act_7 : decode cX6_act 7 = .ok (.aload 6, 2) := by decide +kernel
theorem dX6_act_9 : decode cX6_act 9 = .ok (.ifnonnull 9, 3) := by decide +kernel
theorem dX6_act_12 : decode cX6_act 12 = .ok (.aload_n 0, 1) := by decide +kernel
theorem dX6_act_13 : decode cX6_act 13 = .ok (.iconst 1, 1) := by decide +kernel
theorem dX6_act_14 : decode cX6_act 14 = .ok (.invokevirtual 32, 3) := by decide +kernel
theorem dX6_act_17 : decode cX6_act 17 = .ok (.ireturn, 1) := by decide +kernel
theorem dX6_act_18 : decode cX6_act 18 = .ok (.iload_n 2, 1) := by decide +kernel
theorem dX6_act_19 : decode cX6_act 19 = .ok (.ifCond .lt 38, 3) := by decide +kernel
theorem dX6_act_22 : decode cX6_act 22 = .ok (.iload_n 2, 1) := by decide +kernel
theorem dX6_act_23 : decode cX6_act 23 = .ok (.bipush 13, 2) := by decide +kernel
theorem dX6_act_25 : decode cX6_act 25 = .ok (.if_icmp .gt 32, 3) := by decide +kernel
theorem dX6_act_28 : decode cX6_act 28 = .ok (.aload 6, 2) := by decide +kernel
theorem dX6_act_30 : decode cX6_act 30 = .ok (.iload_n 3, 1) := by decide +kernel
theorem dX6_act_31 : decode cX6_act 31 = .ok (.invokevirtual 55, 3) := by decide +kernel
theorem dX6_act_34 : decode cX6_act 34 = .ok (.ifCond .eq 23, 3) := by decide +kernel
theorem dX6_act_37 : decode cX6_act 37 = .ok (.aload 6, 2) := by decide +kernel
theorem dX6_act_39 : decode cX6_act 39 = .ok (.iload 4, 2) := by decide +kernel
theorem dX6_act_41 : decode cX6_act 41 = .ok (.invokevirtual 55, 3) := by decide +kernel
theorem dX6_act_44 : decode cX6_act 44 = .ok (.ifCond .eq 13, 3) := by decide +kernel
theorem dX6_act_47 : decode cX6_act 47 = .ok (.aload 6, 2) := by decide +kernel
theorem dX6_act_49 : decode cX6_act 49 = .ok (.iload 5, 2) := by decide +kernel
theorem dX6_act_51 : decode cX6_act 51 = .ok (.invokevirtual 55, 3) := by decide +kernel
theorem dX6_act_54 : decode cX6_act 54 = .ok (.ifCond .ne 9, 3) := by decide +kernel
theorem dX6_act_57 : decode cX6_act 57 = .ok (.aload_n 0, 1) := by decide +kernel
theorem dX6_act_58 : decode cX6_act 58 = .ok (.iconst 2, 1) := by decide +kernel
theorem dX6_act_59 : decode cX6_act 59 = .ok (.invokevirtual 32, 3) := by decide +kernel
theorem dX6_act_62 : decode cX6_act 62 = .ok (.ireturn, 1) := by decide +kernel
theorem dX6_act_63 : decode cX6_act 63 = .ok (.aload 6, 2) := by decide +kernel
theorem dX6_act_65 : decode cX6_act 65 = .ok (.getfield 59, 3) := by decide +kernel
theorem dX6_act_68 : decode cX6_act 68 = .ok (.iload_n 2, 1) := by decide +kernel
theorem dX6_act_69 : decode cX6_act 69 = .ok (.aload 6, 2) := by decide +kernel
theorem dX6_act_71 : decode cX6_act 71 = .ok (.getfield 80, 3) := by decide +kernel
theorem dX6_act_74 : decode cX6_act 74 = .ok (.iload_n 3, 1) := by decide +kernel
theorem dX6_act_75 : decode cX6_act 75 = .ok (.laload, 1) := by decide +kernel
theorem dX6_act_76 : decode cX6_act 76 = .ok (.aload 6, 2) := by decide +kernel
theorem dX6_act_78 : decode cX6_act 78 = .ok (.getfield 80, 3) := by decide +kernel
theorem dX6_act_81 : decode cX6_act 81 = .ok (.iload 4, 2) := by decide +kernel
theorem dX6_act_83 : decode cX6_act 83 = .ok (.laload, 1) := by decide +kernel
theorem dX6_act_84 : decode cX6_act 84 = .ok (.invokestatic 121, 3) := by decide +kernel
theorem dX6_act_87 : decode cX6_act 87 = .ok (.lstore 7, 2) := by decide +kernel
theorem dX6_act_89 : decode cX6_act 89 = .ok (.aload_n 0, 1) := by decide +kernel
theorem dX6_act_90 : decode cX6_act 90 = .ok (.aload 6, 2) := by decide +kernel
theorem dX6_act_92 : decode cX6_act 92 = .ok (.iload 5, 2) := by decide +kernel
theorem dX6_act_94 : decode cX6_act 94 = .ok (.lload 7, 2) := by decide +kernel
theorem dX6_act_96 : decode cX6_act 96 = .ok (.invokevirtual 66, 3) := by decide +kernel
theorem dX6_act_99 : decode cX6_act 99 = .ok (.invokevirtual 48, 3) := by decide +kernel
theorem dX6_act_102 : decode cX6_act 102 = .ok (.ireturn, 1) := by decide +kernel
theorem dX6_interval_0 : decode cX6_interval 0 = .ok (.aload_n 0, 1) := by decide +kernel
theorem dX6_interval_1 : decode cX6_interval 1 = .ok (.iload_n 1, 1) := by decide +kernel
theorem dX6_interval_2 : decode cX6_interval 2 = .ok (.invokevirtual 51, 3) := by decide +kernel
theorem dX6_interval_5 : decode cX6_interval 5 = .ok (.astore 5, 2) := by decide +kernel
theorem dX6_interval_7 : decode cX6_interval 7 = .ok (.aload 5, 2) := by decide +kernel
theorem dX6_interval_9 : decode cX6_interval 9 = .ok (.ifnonnull 9, 3) := by decide +kernel
theorem dX6_interval_12 : decode cX6_interval 12 = .ok (.aload_n 0, 1) := by decide +kernel
theorem dX6_interval_13 : decode cX6_interval 13 = .ok (.iconst 1, 1) := by decide +kernel
theorem dX6_interval_14 : decode cX6_interval 14 = .ok (.invokevirtual 32, 3) := by decide +kernel
theorem dX6_interval_17 : decode cX6_interval 17 = .ok (.ireturn, 1) := by decide +kernel
theorem dX6_interval_18 : decode cX6_interval 18 = .ok (.aload 5, 2) := by decide +kernel
theorem dX6_interval_20 : decode cX6_interval 20 = .ok (.iload_n 2, 1) := by decide +kernel
theorem dX6_interval_21 : decode cX6_interval 21 = .ok (.invokevirtual 161, 3) := by decide +kernel
theorem dX6_interval_24 : decode cX6_interval 24 = .ok (.ifCond .eq 23, 3) := by decide +kernel
theorem dX6_interval_27 : decode cX6_interval 27 = .ok (.aload 5, 2) := by decide +kernel
theorem dX6_interval_29 : decode cX6_interval 29 = .ok (.iload_n 3, 1) := by decide +kernel
theorem dX6_interval_30 : decode cX6_interval 30 = .ok (.invokevirtual 161, 3) := by decide +kernel
theorem dX6_interval_33 : decode cX6_interval 33 = .ok (.ifCond .eq 14, 3) := by decide +kernel
theorem dX6_interval_36 : decode cX6_interval 36 = .ok (.iload 4, 2) := by decide +kernel
theorem dX6_interval_38 : decode cX6_interval 38 = .ok (.ifCond .lt 9, 3) := by decide +kernel
theorem dX6_interval_41 : decode cX6_interval 41 = .ok (.iload 4, 2) := by decide +kernel
theorem dX6_interval_43 : decode cX6_interval 43 = .ok (.iconst 5, 1) := by decide +kernel
theorem dX6_interval_44 : decode cX6_interval 44 = .ok (.if_icmp .le 9, 3) := by decide +kernel
theorem dX6_interval_47 : decode cX6_interval 47 = .ok (.aload_n 0, 1) := by decide +kernel
theorem dX6_interval_48 : decode cX6_interval 48 = .ok (.iconst 2, 1) := by decide +kernel
theorem dX6_interval_49 : decode cX6_interval 49 = .ok (.invokevirtual 32, 3) := by decide +kernel
theorem dX6_interval_52 : decode cX6_interval 52 = .ok (.ireturn, 1) := by decide +kernel
theorem dX6_interval_53 : decode cX6_interval 53 = .ok (.aload 5, 2) := by decide +kernel
theorem dX6_interval_55 : decode cX6_interval 55 = .ok (.iload_n 2, 1) := by decide +kernel
theorem dX6_interval_56 : decode cX6_interval 56 = .ok (.invokevirtual 166, 3) := by decide +kernel
theorem dX6_interval_59 : decode cX6_interval 59 = .ok (.astore 6, 2) := by decide +kernel
theorem dX6_interval_61 : decode cX6_interval 61 = .ok (.aload 5, 2) := by decide +kernel
theorem dX6_interval_63 : decode cX6_interval 63 = .ok (.iload_n 3, 1) := by decide +kernel
theorem dX6_interval_64 : decode cX6_interval 64 = .ok (.invokevirtual 166, 3) := by decide +kernel
theorem dX6_interval_67 : decode cX6_interval 67 = .ok (.astore 7, 2) := by decide +kernel
theorem dX6_interval_69 : decode cX6_interval 69 = .ok (.aload 6, 2) := by decide +kernel
theorem dX6_interval_71 : decode cX6_interval 71 = .ok (.invokevirtual 170, 3) := by decide +kernel
theorem dX6_interval_74 : decode cX6_interval 74 = .ok (.ifCond .eq 25, 3) := by decide +kernel
theorem dX6_interval_77 : decode cX6_interval 77 = .ok (.aload 7, 2) := by decide +kernel
theorem dX6_interval_79 : decode cX6_interval 79 = .ok (.invokevirtual 170, 3) := by decide +kernel
theorem dX6_interval_82 : decode cX6_interval 82 = .ok (.ifCond .eq 17, 3) := by decide +kernel
theorem dX6_interval_85 : decode cX6_interval 85 = .ok (.iload 4, 2) := by decide +kernel
theorem dX6_interval_87 : decode cX6_interval 87 = .ok (.iconst 3, 1) := by decide +kernel
theorem dX6_interval_88 : decode cX6_interval 88 = .ok (.if_icmp .ne 28, 3) := by decide +kernel
theorem dX6_interval_91 : decode cX6_interval 91 = .ok (.aload 7, 2) := by decide +kernel
theorem dX6_interval_93 : decode cX6_interval 93 = .ok (.invokevirtual 173, 3) := by decide +kernel
theorem dX6_interval_96 : decode cX6_interval 96 = .ok (.ifCond .eq 20, 3) := by decide +kernel
theorem dX6_interval_99 : decode cX6_interval 99 = .ok (.aload 5, 2) := by decide +kernel
theorem dX6_interval_101 : decode cX6_interval 101 = .ok (.iload_n 2, 1) := by decide +kernel
theorem dX6_interval_102 : decode cX6_interval 102 = .ok (.aload 6, 2) := by decide +kernel
theorem dX6_interval_104 : decode cX6_interval 104 = .ok (.invokevirtual 176, 3) := by decide +kernel
theorem dX6_interval_107 : decode cX6_interval 107 = .ok (.invokevirtual 180, 3) := by decide +kernel
theorem dX6_interval_110 : decode cX6_interval 110 = .ok (.aload_n 0, 1) := by decide +kernel
theorem dX6_interval_111 : decode cX6_interval 111 = .ok (.iconst 1, 1) := by decide +kernel
theorem dX6_interval_112 : decode cX6_interval 112 = .ok (.invokevirtual 48, 3) := by decide +kernel
theorem dX6_interval_115 : decode cX6_interval 115 = .ok (.ireturn, 1) := by decide +kernel
theorem dX6_interval_116 : decode cX6_interval 116 = .ok (.aload 6, 2) := by decide +kernel
theorem dX6_interval_118 : decode cX6_interval 118 = .ok (.iload 4, 2) := by decide +kernel
theorem dX6_interval_120 : decode cX6_interval 120 = .ok (.aload 7, 2) := by decide +kernel
theorem dX6_interval_122 : decode cX6_interval 122 = .ok (.invokevirtual 184, 3) := by decide +kernel
theorem dX6_interval_125 : decode cX6_interval 125 = .ok (.astore 8, 2) := by decide +kernel
theorem dX6_interval_127 : decode cX6_interval 127 = .ok (.iload 4, 2) := by decide +kernel
theorem dX6_interval_129 : decode cX6_interval 129 = .ok (.iconst 5, 1) := by decide +kernel
theorem dX6_interval_130 : decode cX6_interval 130 = .ok (.if_icmp .ne 28, 3) := by decide +kernel
theorem dX6_interval_133 : decode cX6_interval 133 = .ok (.aload 8, 2) := by decide +kernel
theorem dX6_interval_135 : decode cX6_interval 135 = .ok (.invokevirtual 170, 3) := by decide +kernel
theorem dX6_interval_138 : decode cX6_interval 138 = .ok (.ifCond .ne 20, 3) := by decide +kernel
theorem dX6_interval_141 : decode cX6_interval 141 = .ok (.aload 5, 2) := by decide +kernel
theorem dX6_interval_143 : decode cX6_interval 143 = .ok (.iload_n 2, 1) := by decide +kernel
theorem dX6_interval_144 : decode cX6_interval 144 = .ok (.aload 6, 2) := by decide +kernel
theorem dX6_interval_146 : decode cX6_interval 146 = .ok (.invokevirtual 187, 3) := by decide +kernel
theorem dX6_interval_149 : decode cX6_interval 149 = .ok (.invokevirtual 180, 3) := by decide +kernel
theorem dX6_interval_152 : decode cX6_interval 152 = .ok (.aload_n 0, 1) := by decide +kernel
theorem dX6_interval_153 : decode cX6_interval 153 = .ok (.iconst 2, 1) := by decide +kernel
theorem dX6_interval_154 : decode cX6_interval 154 = .ok (.invokevirtual 48, 3) := by decide +kernel
theorem dX6_interval_157 : decode cX6_interval 157 = .ok (.ireturn, 1) := by decide +kernel
theorem dX6_interval_158 : decode cX6_interval 158 = .ok (.aload 5, 2) := by decide +kernel
theorem dX6_interval_160 : decode cX6_interval 160 = .ok (.iload_n 2, 1) := by decide +kernel
theorem dX6_interval_161 : decode cX6_interval 161 = .ok (.aload 8, 2) := by decide +kernel
theorem dX6_interval_163 : decode cX6_interval 163 = .ok (.invokevirtual 180, 3) := by decide +kernel
theorem dX6_interval_166 : decode cX6_interval 166 = .ok (.aload_n 0, 1) := by decide +kernel
theorem dX6_interval_167 : decode cX6_interval 167 = .ok (.iconst 0, 1) := by decide +kernel
theorem dX6_interval_168 : decode cX6_interval 168 = .ok (.invokevirtual 48, 3) := by decide +kernel
theorem dX6_interval_171 : decode cX6_interval 171 = .ok (.ireturn, 1) := by decide +kernel
theorem dX6_move_0 : decode cX6_move 0 = .ok (.aload_n 0, 1) := by decide +kernel
theorem dX6_move_1 : decode cX6_move 1 = .ok (.iload_n 1, 1) := by decide +kernel
theorem dX6_move_2 : decode cX6_move 2 = .ok (.invokevirtual 51, 3) := by decide +kernel
theorem dX6_move_5 : decode cX6_move 5 = .ok (.astore 6, 2) := by decide +kernel
theorem dX6_move_7 : decode cX6_move 7 = .ok (.aload 6, 2) := by decide +kernel
theorem dX6_move_9 : decode cX6_move 9 = .ok (.ifnonnull 9, 3) := by decide +kernel
theorem dX6_move_12 : decode cX6_move 12 = .ok (.aload_n 0, 1) := by decide +kernel
theorem dX6_move_13 : decode cX6_move 13 = .ok (.iconst 1, 1) := by decide +kernel
theorem dX6_move_14 : decode cX6_move 14 = .ok (.invokevirtual 32, 3) := by decide +kernel
theorem dX6_move_17 : decode cX6_move 17 = .ok (.ireturn, 1) := by decide +kernel
theorem dX6_move_18 : decode cX6_move 18 = .ok (.aload_n 0, 1) := by decide +kernel
theorem dX6_move_19 : decode cX6_move 19 = .ok (.iload_n 3, 1) := by decide +kernel
theorem dX6_move_20 : decode cX6_move 20 = .ok (.invokevirtual 51, 3) := by decide +kernel
theorem dX6_move_23 : decode cX6_move 23 = .ok (.astore 7, 2) := by decide +kernel
theorem dX6_move_25 : decode cX6_move 25 = .ok (.aload 7, 2) := by decide +kernel
theorem dX6_move_27 : decode cX6_move 27 = .ok (.ifnull 22, 3) := by decide +kernel
theorem dX6_move_30 : decode cX6_move 30 = .ok (.aload 6, 2) := by decide +kernel
theorem dX6_move_32 : decode cX6_move 32 = .ok (.iload_n 2, 1) := by decide +kernel
theorem dX6_move_33 : decode cX6_move 33 = .ok (.invokevirtual 55, 3) := by decide +kernel
theorem dX6_move_36 : decode cX6_move 36 = .ok (.ifCond .eq 13, 3) := by decide +kernel
theorem dX6_move_39 : decode cX6_move 39 = .ok (.aload 7, 2) := by decide +kernel
theorem dX6_move_41 : decode cX6_move 41 = .ok (.iload 4, 2) := by decide +kernel
theorem dX6_move_43 : decode cX6_move 43 = .ok (.invokevirtual 55, 3) := by decide +kernel
theorem dX6_move_46 : decode cX6_move 46 = .ok (.ifCond .ne 9, 3) := by decide +kernel
theorem dX6_move_49 : decode cX6_move 49 = .ok (.aload_n 0, 1) := by decide +kernel
theorem dX6_move_50 : decode cX6_move 50 = .ok (.iconst 2, 1) := by decide +kernel
theorem dX6_move_51 : decode cX6_move 51 = .ok (.invokevirtual 32, 3) := by decide +kernel
theorem dX6_move_54 : decode cX6_move 54 = .ok (.ireturn, 1) := by decide +kernel
theorem dX6_move_55 : decode cX6_move 55 = .ok (.aload 6, 2) := by decide +kernel
theorem dX6_move_57 : decode cX6_move 57 = .ok (.getfield 59, 3) := by decide +kernel
theorem dX6_move_60 : decode cX6_move 60 = .ok (.aload 7, 2) := by decide +kernel
theorem dX6_move_62 : decode cX6_move 62 = .ok (.getfield 59, 3) := by decide +kernel
theorem dX6_move_65 : decode cX6_move 65 = .ok (.if_acmp .eq 14, 3) := by decide +kernel
theorem dX6_move_68 : decode cX6_move 68 = .ok (.iload 5, 2) := by decide +kernel
theorem dX6_move_70 : decode cX6_move 70 = .ok (.ifCond .ne 9, 3) := by decide +kernel
theorem dX6_move_73 : decode cX6_move 73 = .ok (.aload_n 0, 1) := by decide +kernel
theorem dX6_move_74 : decode cX6_move 74 = .ok (.iconst 3, 1) := by decide +kernel
theorem dX6_move_75 : decode cX6_move 75 = .ok (.invokevirtual 32, 3) := by decide +kernel
theorem dX6_move_78 : decode cX6_move 78 = .ok (.ireturn, 1) := by decide +kernel
theorem dX6_move_79 : decode cX6_move 79 = .ok (.aload_n 0, 1) := by decide +kernel
theorem dX6_move_80 : decode cX6_move 80 = .ok (.aload 7, 2) := by decide +kernel
theorem dX6_move_82 : decode cX6_move 82 = .ok (.iload 4, 2) := by decide +kernel
theorem dX6_move_84 : decode cX6_move 84 = .ok (.aload 6, 2) := by decide +kernel
theorem dX6_move_86 : decode cX6_move 86 = .ok (.getfield 59, 3) := by decide +kernel
theorem dX6_move_89 : decode cX6_move 89 = .ok (.aload 6, 2) := by decide +kernel
theorem dX6_move_91 : decode cX6_move 91 = .ok (.getfield 80, 3) := by decide +kernel
theorem dX6_move_94 : decode cX6_move 94 = .ok (.iload_n 2, 1) := by decide +kernel
theorem dX6_move_95 : decode cX6_move 95 = .ok (.laload, 1) := by decide +kernel
theorem dX6_move_96 : decode cX6_move 96 = .ok (.aload 7, 2) := by decide +kernel
theorem dX6_move_98 : decode cX6_move 98 = .ok (.getfield 59, 3) := by decide +kernel
theorem dX6_move_101 : decode cX6_move 101 = .ok (.invokestatic 190, 3) := by decide +kernel
theorem dX6_move_104 : decode cX6_move 104 = .ok (.invokevirtual 66, 3) := by decide +kernel
theorem dX6_move_107 : decode cX6_move 107 = .ok (.invokevirtual 48, 3) := by decide +kernel
theorem dX6_move_110 : decode cX6_move 110 = .ok (.ireturn, 1) := by decide +kernel
theorem dX6_rowAt_0 : decode cX6_rowAt 0 = .ok (.iload_n 1, 1) := by decide +kernel
theorem dX6_rowAt_1 : decode cX6_rowAt 1 = .ok (.ifCond .lt 20, 3) := by decide +kernel
theorem dX6_rowAt_4 : decode cX6_rowAt 4 = .ok (.iload_n 1, 1) := by decide +kernel
theorem dX6_rowAt_5 : decode cX6_rowAt 5 = .ok (.aload_n 0, 1) := by decide +kernel
theorem dX6_rowAt_6 : decode cX6_rowAt 6 = .ok (.getfield 22, 3) := by decide +kernel
theorem dX6_rowAt_9 : decode cX6_rowAt 9 = .ok (.if_icmp .ge 12, 3) := by decide +kernel
theorem dX6_rowAt_12 : decode cX6_rowAt 12 = .ok (.aload_n 0, 1) := by decide +kernel
theorem dX6_rowAt_13 : decode cX6_rowAt 13 = .ok (.getfield 11, 3) := by decide +kernel
theorem dX6_rowAt_16 : decode cX6_rowAt 16 = .ok (.iload_n 1, 1) := by decide +kernel
theorem dX6_rowAt_17 : decode cX6_rowAt 17 = .ok (.aaload, 1) := by decide +kernel
theorem dX6_rowAt_18 : decode cX6_rowAt 18 = .ok (.goto 4, 3) := by decide +kernel
theorem dX6_rowAt_21 : decode cX6_rowAt 21 = .ok (.aconst_null, 1) := by decide +kernel
theorem dX6_rowAt_22 : decode cX6_rowAt 22 = .ok (.areturn, 1) := by decide +kernel
theorem dX6_refuse_0 : decode cX6_refuse 0 = .ok (.aload_n 0, 1) := by decide +kernel
theorem dX6_refuse_1 : decode cX6_refuse 1 = .ok (.iload_n 1, 1) := by decide +kernel
theorem dX6_refuse_2 : decode cX6_refuse 2 = .ok (.putfield 29, 3) := by decide +kernel
theorem dX6_refuse_5 : decode cX6_refuse 5 = .ok (.bipush (-9), 2) := by decide +kernel
theorem dX6_refuse_7 : decode cX6_refuse 7 = .ok (.ireturn, 1) := by decide +kernel
theorem dX6_refuseLong_0 : decode cX6_refuseLong 0 = .ok (.aload_n 0, 1) := by decide +kernel
theorem dX6_refuseLong_1 : decode cX6_refuseLong 1 = .ok (.iload_n 1, 1) := by decide +kernel
theorem dX6_refuseLong_2 : decode cX6_refuseLong 2 = .ok (.putfield 29, 3) := by decide +kernel
theorem dX6_refuseLong_5 : decode cX6_refuseLong 5 = .ok (.lconst 0, 1) := by decide +kernel
theorem dX6_refuseLong_6 : decode cX6_refuseLong 6 = .ok (.lreturn, 1) := by decide +kernel
theorem dX6_answer_0 : decode cX6_answer 0 = .ok (.aload_n 0, 1) := by decide +kernel
theorem dX6_answer_1 : decode cX6_answer 1 = .ok (.iconst 0, 1) := by decide +kernel
theorem dX6_answer_2 : decode cX6_answer 2 = .ok (.putfield 29, 3) := by decide +kernel
theorem dX6_answer_5 : decode cX6_answer 5 = .ok (.iload_n 1, 1) := by decide +kernel
theorem dX6_answer_6 : decode cX6_answer 6 = .ok (.ireturn, 1) := by decide +kernel
theorem dX6_answerLong_0 : decode cX6_answerLong 0 = .ok (.aload_n 0, 1) := by decide +kernel
theorem dX6_answerLong_1 : decode cX6_answerLong 1 = .ok (.iconst 0, 1) := by decide +kernel
theorem dX6_answerLong_2 : decode cX6_answerLong 2 = .ok (.putfield 29, 3) := by decide +kernel
theorem dX6_answerLong_5 : decode cX6_answerLong 5 = .ok (.lload_n 1, 1) := by decide +kernel
theorem dX6_answerLong_6 : decode cX6_answerLong 6 = .ok (.lreturn, 1) := by decide +kernel
theorem dJ6_numberOfLeadingZeros_0f7a4_0 : decode cJ6_numberOfLeadingZeros_0f7a4 0 = .ok (.iload_n 0, 1) := by decide +kernel
theorem dJ6_numberOfLeadingZeros_0f7a4_1 : decode cJ6_numberOfLeadingZeros_0f7a4 1 = .ok (.ifCond .gt 14, 3) := by decide +kernel
theorem dJ6_numberOfLeadingZeros_0f7a4_4 : decode cJ6_numberOfLeadingZeros_0f7a4 4 = .ok (.iload_n 0, 1) := by decide +kernel
theorem dJ6_numberOfLeadingZeros_0f7a4_5 : decode cJ6_numberOfLeadingZeros_0f7a4 5 = .ok (.ifCond .ne 8, 3) := by decide +kernel
theorem dJ6_numberOfLeadingZeros_0f7a4_8 : decode cJ6_numberOfLeadingZeros_0f7a4 8 = .ok (.bipush 32, 2) := by decide +kernel
theorem dJ6_numberOfLeadingZeros_0f7a4_10 : decode cJ6_numberOfLeadingZeros_0f7a4 10 = .ok (.goto 4, 3) := by decide +kernel
theorem dJ6_numberOfLeadingZeros_0f7a4_13 : decode cJ6_numberOfLeadingZeros_0f7a4 13 = .ok (.iconst 0, 1) := by decide +kernel
theorem dJ6_numberOfLeadingZeros_0f7a4_14 : decode cJ6_numberOfLeadingZeros_0f7a4 14 = .ok (.ireturn, 1) := by decide +kernel
theorem dJ6_numberOfLeadingZeros_0f7a4_15 : decode cJ6_numberOfLeadingZeros_0f7a4 15 = .ok (.bipush 31, 2) := by decide +kernel
theorem dJ6_numberOfLeadingZeros_0f7a4_17 : decode cJ6_numberOfLeadingZeros_0f7a4 17 = .ok (.istore_n 1, 1) := by decide +kernel
theorem dJ6_numberOfLeadingZeros_0f7a4_18 : decode cJ6_numberOfLeadingZeros_0f7a4 18 = .ok (.iload_n 0, 1) := by decide +kernel
theorem dJ6_numberOfLeadingZeros_0f7a4_19 : decode cJ6_numberOfLeadingZeros_0f7a4 19 = .ok (.ldc_w 264, 3) := by decide +kernel
theorem dJ6_numberOfLeadingZeros_0f7a4_22 : decode cJ6_numberOfLeadingZeros_0f7a4 22 = .ok (.if_icmp .lt 11, 3) := by decide +kernel
theorem dJ6_numberOfLeadingZeros_0f7a4_25 : decode cJ6_numberOfLeadingZeros_0f7a4 25 = .ok (.iinc 1 (-16), 3) := by decide +kernel
theorem dJ6_numberOfLeadingZeros_0f7a4_28 : decode cJ6_numberOfLeadingZeros_0f7a4 28 = .ok (.iload_n 0, 1) := by decide +kernel
theorem dJ6_numberOfLeadingZeros_0f7a4_29 : decode cJ6_numberOfLeadingZeros_0f7a4 29 = .ok (.bipush 16, 2) := by decide +kernel
theorem dJ6_numberOfLeadingZeros_0f7a4_31 : decode cJ6_numberOfLeadingZeros_0f7a4 31 = .ok (.iushr, 1) := by decide +kernel
theorem dJ6_numberOfLeadingZeros_0f7a4_32 : decode cJ6_numberOfLeadingZeros_0f7a4 32 = .ok (.istore_n 0, 1) := by decide +kernel
theorem dJ6_numberOfLeadingZeros_0f7a4_33 : decode cJ6_numberOfLeadingZeros_0f7a4 33 = .ok (.iload_n 0, 1) := by decide +kernel
theorem dJ6_numberOfLeadingZeros_0f7a4_34 : decode cJ6_numberOfLeadingZeros_0f7a4 34 = .ok (.sipush 256, 3) := by decide +kernel
theorem dJ6_numberOfLeadingZeros_0f7a4_37 : decode cJ6_numberOfLeadingZeros_0f7a4 37 = .ok (.if_icmp .lt 11, 3) := by decide +kernel
theorem dJ6_numberOfLeadingZeros_0f7a4_40 : decode cJ6_numberOfLeadingZeros_0f7a4 40 = .ok (.iinc 1 (-8), 3) := by decide +kernel
theorem dJ6_numberOfLeadingZeros_0f7a4_43 : decode cJ6_numberOfLeadingZeros_0f7a4 43 = .ok (.iload_n 0, 1) := by decide +kernel
theorem dJ6_numberOfLeadingZeros_0f7a4_44 : decode cJ6_numberOfLeadingZeros_0f7a4 44 = .ok (.bipush 8, 2) := by decide +kernel
theorem dJ6_numberOfLeadingZeros_0f7a4_46 : decode cJ6_numberOfLeadingZeros_0f7a4 46 = .ok (.iushr, 1) := by decide +kernel
theorem dJ6_numberOfLeadingZeros_0f7a4_47 : decode cJ6_numberOfLeadingZeros_0f7a4 47 = .ok (.istore_n 0, 1) := by decide +kernel
theorem dJ6_numberOfLeadingZeros_0f7a4_48 : decode cJ6_numberOfLeadingZeros_0f7a4 48 = .ok (.iload_n 0, 1) := by decide +kernel
theorem dJ6_numberOfLeadingZeros_0f7a4_49 : decode cJ6_numberOfLeadingZeros_0f7a4 49 = .ok (.bipush 16, 2) := by decide +kernel
theorem dJ6_numberOfLeadingZeros_0f7a4_51 : decode cJ6_numberOfLeadingZeros_0f7a4 51 = .ok (.if_icmp .lt 10, 3) := by decide +kernel
theorem dJ6_numberOfLeadingZeros_0f7a4_54 : decode cJ6_numberOfLeadingZeros_0f7a4 54 = .ok (.iinc 1 (-4), 3) := by decide +kernel
theorem dJ6_numberOfLeadingZeros_0f7a4_57 : decode cJ6_numberOfLeadingZeros_0f7a4 57 = .ok (.iload_n 0, 1) := by decide +kernel
theorem dJ6_numberOfLeadingZeros_0f7a4_58 : decode cJ6_numberOfLeadingZeros_0f7a4 58 = .ok (.iconst 4, 1) := by decide +kernel
theorem dJ6_numberOfLeadingZeros_0f7a4_59 : decode cJ6_numberOfLeadingZeros_0f7a4 59 = .ok (.iushr, 1) := by decide +kernel
theorem dJ6_numberOfLeadingZeros_0f7a4_60 : decode cJ6_numberOfLeadingZeros_0f7a4 60 = .ok (.istore_n 0, 1) := by decide +kernel
theorem dJ6_numberOfLeadingZeros_0f7a4_61 : decode cJ6_numberOfLeadingZeros_0f7a4 61 = .ok (.iload_n 0, 1) := by decide +kernel
theorem dJ6_numberOfLeadingZeros_0f7a4_62 : decode cJ6_numberOfLeadingZeros_0f7a4 62 = .ok (.iconst 4, 1) := by decide +kernel
theorem dJ6_numberOfLeadingZeros_0f7a4_63 : decode cJ6_numberOfLeadingZeros_0f7a4 63 = .ok (.if_icmp .lt 10, 3) := by decide +kernel
theorem dJ6_numberOfLeadingZeros_0f7a4_66 : decode cJ6_numberOfLeadingZeros_0f7a4 66 = .ok (.iinc 1 (-2), 3) := by decide +kernel
theorem dJ6_numberOfLeadingZeros_0f7a4_69 : decode cJ6_numberOfLeadingZeros_0f7a4 69 = .ok (.iload_n 0, 1) := by decide +kernel
theorem dJ6_numberOfLeadingZeros_0f7a4_70 : decode cJ6_numberOfLeadingZeros_0f7a4 70 = .ok (.iconst 2, 1) := by decide +kernel
theorem dJ6_numberOfLeadingZeros_0f7a4_71 : decode cJ6_numberOfLeadingZeros_0f7a4 71 = .ok (.iushr, 1) := by decide +kernel
theorem dJ6_numberOfLeadingZeros_0f7a4_72 : decode cJ6_numberOfLeadingZeros_0f7a4 72 = .ok (.istore_n 0, 1) := by decide +kernel
theorem dJ6_numberOfLeadingZeros_0f7a4_73 : decode cJ6_numberOfLeadingZeros_0f7a4 73 = .ok (.iload_n 1, 1) := by decide +kernel
theorem dJ6_numberOfLeadingZeros_0f7a4_74 : decode cJ6_numberOfLeadingZeros_0f7a4 74 = .ok (.iload_n 0, 1) := by decide +kernel
theorem dJ6_numberOfLeadingZeros_0f7a4_75 : decode cJ6_numberOfLeadingZeros_0f7a4 75 = .ok (.iconst 1, 1) := by decide +kernel
theorem dJ6_numberOfLeadingZeros_0f7a4_76 : decode cJ6_numberOfLeadingZeros_0f7a4 76 = .ok (.iushr, 1) := by decide +kernel
theorem dJ6_numberOfLeadingZeros_0f7a4_77 : decode cJ6_numberOfLeadingZeros_0f7a4 77 = .ok (.isub, 1) := by decide +kernel
theorem dJ6_numberOfLeadingZeros_0f7a4_78 : decode cJ6_numberOfLeadingZeros_0f7a4 78 = .ok (.ireturn, 1) := by decide +kernel
theorem dJ13_numberOfLeadingZeros_95d88_0 : decode cJ13_numberOfLeadingZeros_95d88 0 = .ok (.lload_n 0, 1) := by decide +kernel
theorem dJ13_numberOfLeadingZeros_95d88_1 : decode cJ13_numberOfLeadingZeros_95d88 1 = .ok (.bipush 32, 2) := by decide +kernel
theorem dJ13_numberOfLeadingZeros_95d88_3 : decode cJ13_numberOfLeadingZeros_95d88 3 = .ok (.lushr, 1) := by decide +kernel
theorem dJ13_numberOfLeadingZeros_95d88_4 : decode cJ13_numberOfLeadingZeros_95d88 4 = .ok (.l2i, 1) := by decide +kernel
theorem dJ13_numberOfLeadingZeros_95d88_5 : decode cJ13_numberOfLeadingZeros_95d88 5 = .ok (.istore_n 2, 1) := by decide +kernel
theorem dJ13_numberOfLeadingZeros_95d88_6 : decode cJ13_numberOfLeadingZeros_95d88 6 = .ok (.iload_n 2, 1) := by decide +kernel
theorem dJ13_numberOfLeadingZeros_95d88_7 : decode cJ13_numberOfLeadingZeros_95d88 7 = .ok (.ifCond .ne 14, 3) := by decide +kernel
theorem dJ13_numberOfLeadingZeros_95d88_10 : decode cJ13_numberOfLeadingZeros_95d88 10 = .ok (.bipush 32, 2) := by decide +kernel
theorem dJ13_numberOfLeadingZeros_95d88_12 : decode cJ13_numberOfLeadingZeros_95d88 12 = .ok (.lload_n 0, 1) := by decide +kernel
theorem dJ13_numberOfLeadingZeros_95d88_13 : decode cJ13_numberOfLeadingZeros_95d88 13 = .ok (.l2i, 1) := by decide +kernel
theorem dJ13_numberOfLeadingZeros_95d88_14 : decode cJ13_numberOfLeadingZeros_95d88 14 = .ok (.invokestatic 308, 3) := by decide +kernel
theorem dJ13_numberOfLeadingZeros_95d88_17 : decode cJ13_numberOfLeadingZeros_95d88 17 = .ok (.iadd, 1) := by decide +kernel
theorem dJ13_numberOfLeadingZeros_95d88_18 : decode cJ13_numberOfLeadingZeros_95d88 18 = .ok (.goto 7, 3) := by decide +kernel
theorem dJ13_numberOfLeadingZeros_95d88_21 : decode cJ13_numberOfLeadingZeros_95d88 21 = .ok (.iload_n 2, 1) := by decide +kernel
theorem dJ13_numberOfLeadingZeros_95d88_22 : decode cJ13_numberOfLeadingZeros_95d88 22 = .ok (.invokestatic 308, 3) := by decide +kernel
theorem dJ13_numberOfLeadingZeros_95d88_25 : decode cJ13_numberOfLeadingZeros_95d88 25 = .ok (.ireturn, 1) := by decide +kernel
theorem dJ9_abs_067f4_0 : decode cJ9_abs_067f4 0 = .ok (.lload_n 0, 1) := by decide +kernel
theorem dJ9_abs_067f4_1 : decode cJ9_abs_067f4 1 = .ok (.lconst 0, 1) := by decide +kernel
theorem dJ9_abs_067f4_2 : decode cJ9_abs_067f4 2 = .ok (.lcmp, 1) := by decide +kernel
theorem dJ9_abs_067f4_3 : decode cJ9_abs_067f4 3 = .ok (.ifCond .ge 8, 3) := by decide +kernel
theorem dJ9_abs_067f4_6 : decode cJ9_abs_067f4 6 = .ok (.lload_n 0, 1) := by decide +kernel
theorem dJ9_abs_067f4_7 : decode cJ9_abs_067f4 7 = .ok (.lneg, 1) := by decide +kernel
theorem dJ9_abs_067f4_8 : decode cJ9_abs_067f4 8 = .ok (.goto 4, 3) := by decide +kernel
theorem dJ9_abs_067f4_11 : decode cJ9_abs_067f4 11 = .ok (.lload_n 0, 1) := by decide +kernel
theorem dJ9_abs_067f4_12 : decode cJ9_abs_067f4 12 = .ok (.lreturn, 1) := by decide +kernel
theorem dJ9_max_7cf53_0 : decode cJ9_max_7cf53 0 = .ok (.iload_n 0, 1) := by decide +kernel
theorem dJ9_max_7cf53_1 : decode cJ9_max_7cf53 1 = .ok (.iload_n 1, 1) := by decide +kernel
theorem dJ9_max_7cf53_2 : decode cJ9_max_7cf53 2 = .ok (.if_icmp .lt 7, 3) := by decide +kernel
theorem dJ9_max_7cf53_5 : decode cJ9_max_7cf53 5 = .ok (.iload_n 0, 1) := by decide +kernel
theorem dJ9_max_7cf53_6 : decode cJ9_max_7cf53 6 = .ok (.goto 4, 3) := by decide +kernel
theorem dJ9_max_7cf53_9 : decode cJ9_max_7cf53 9 = .ok (.iload_n 1, 1) := by decide +kernel
theorem dJ9_max_7cf53_10 : decode cJ9_max_7cf53 10 = .ok (.ireturn, 1) := by decide +kernel
theorem dJ9_max_f86c9_0 : decode cJ9_max_f86c9 0 = .ok (.lload_n 0, 1) := by decide +kernel
theorem dJ9_max_f86c9_1 : decode cJ9_max_f86c9 1 = .ok (.lload_n 2, 1) := by decide +kernel
theorem dJ9_max_f86c9_2 : decode cJ9_max_f86c9 2 = .ok (.lcmp, 1) := by decide +kernel
theorem dJ9_max_f86c9_3 : decode cJ9_max_f86c9 3 = .ok (.ifCond .lt 7, 3) := by decide +kernel
theorem dJ9_max_f86c9_6 : decode cJ9_max_f86c9 6 = .ok (.lload_n 0, 1) := by decide +kernel
theorem dJ9_max_f86c9_7 : decode cJ9_max_f86c9 7 = .ok (.goto 4, 3) := by decide +kernel
theorem dJ9_max_f86c9_10 : decode cJ9_max_f86c9 10 = .ok (.lload_n 2, 1) := by decide +kernel
theorem dJ9_max_f86c9_11 : decode cJ9_max_f86c9 11 = .ok (.lreturn, 1) := by decide +kernel
theorem dJ9_min_7cf53_0 : decode cJ9_min_7cf53 0 = .ok (.iload_n 0, 1) := by decide +kernel
theorem dJ9_min_7cf53_1 : decode cJ9_min_7cf53 1 = .ok (.iload_n 1, 1) := by decide +kernel
theorem dJ9_min_7cf53_2 : decode cJ9_min_7cf53 2 = .ok (.if_icmp .gt 7, 3) := by decide +kernel
theorem dJ9_min_7cf53_5 : decode cJ9_min_7cf53 5 = .ok (.iload_n 0, 1) := by decide +kernel
theorem dJ9_min_7cf53_6 : decode cJ9_min_7cf53 6 = .ok (.goto 4, 3) := by decide +kernel
theorem dJ9_min_7cf53_9 : decode cJ9_min_7cf53 9 = .ok (.iload_n 1, 1) := by decide +kernel
theorem dJ9_min_7cf53_10 : decode cJ9_min_7cf53 10 = .ok (.ireturn, 1) := by decide +kernel
theorem dJ9_min_f86c9_0 : decode cJ9_min_f86c9 0 = .ok (.lload_n 0, 1) := by decide +kernel
theorem dJ9_min_f86c9_1 : decode cJ9_min_f86c9 1 = .ok (.lload_n 2, 1) := by decide +kernel
theorem dJ9_min_f86c9_2 : decode cJ9_min_f86c9 2 = .ok (.lcmp, 1) := by decide +kernel
theorem dJ9_min_f86c9_3 : decode cJ9_min_f86c9 3 = .ok (.ifCond .gt 7, 3) := by decide +kernel
theorem dJ9_min_f86c9_6 : decode cJ9_min_f86c9 6 = .ok (.lload_n 0, 1) := by decide +kernel
theorem dJ9_min_f86c9_7 : decode cJ9_min_f86c9 7 = .ok (.goto 4, 3) := by decide +kernel
theorem dJ9_min_f86c9_10 : decode cJ9_min_f86c9 10 = .ok (.lload_n 2, 1) := by decide +kernel
theorem dJ9_min_f86c9_11 : decode cJ9_min_f86c9 11 = .ok (.lreturn, 1) := by decide +kernel
abbrev vwCl : List vw_C := [(RX0, TX0, 3), (RX1, TX1, 0), (RX3, TX3, 2), (RX4, TX4, 2), (RX6, TX6, 5)]

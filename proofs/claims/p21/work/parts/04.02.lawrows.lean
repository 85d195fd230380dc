theorem dL_law_192 : decode cL_law 192 = .ok (.iconst 4, 1) := by decide +kernel
theorem dL_law_193 : decode cL_law 193 = .ok (.if_icmp .ge 20, 3) := by decide +kernel
theorem dL_law_196 : decode cL_law 196 = .ok (.aload_n 1, 1) := by decide +kernel
theorem dL_law_197 : decode cL_law 197 = .ok (.iload 10, 2) := by decide +kernel
theorem dL_law_199 : decode cL_law 199 = .ok (.invokestatic 45, 3) := by decide +kernel
theorem dL_law_202 : decode cL_law 202 = .ok (.ifCond .ne 5, 3) := by decide +kernel
theorem dL_law_205 : decode cL_law 205 = .ok (.iconst 0, 1) := by decide +kernel
theorem dL_law_206 : decode cL_law 206 = .ok (.ireturn, 1) := by decide +kernel
theorem dL_law_207 : decode cL_law 207 = .ok (.iinc 10 1, 3) := by decide +kernel
theorem dL_law_210 : decode cL_law 210 = .ok (.goto (-20), 3) := by decide +kernel
theorem dL_law_213 : decode cL_law 213 = .ok (.iinc 3 4, 3) := by decide +kernel
theorem dL_law_216 : decode cL_law 216 = .ok (.goto (-181), 3) := by decide +kernel
theorem dL_law_219 : decode cL_law 219 = .ok (.iconst 1, 1) := by decide +kernel
theorem dL_law_220 : decode cL_law 220 = .ok (.ireturn, 1) := by decide +kernel
theorem dL_isOrdered_0 : decode cL_isOrdered 0 = .ok (.aload_n 0, 1) := by decide +kernel
theorem dL_isOrdered_1 : decode cL_isOrdered 1 = .ok (.iconst 0, 1) := by decide +kernel
theorem dL_isOrdered_2 : decode cL_isOrdered 2 = .ok (.iconst 0, 1) := by decide +kernel
theorem dL_isOrdered_3 : decode cL_isOrdered 3 = .ok (.iconst 1, 1) := by decide +kernel
theorem dL_isOrdered_4 : decode cL_isOrdered 4 = .ok (.invokevirtual 7, 3) := by decide +kernel
theorem dL_isOrdered_7 : decode cL_isOrdered 7 = .ok (.istore_n 3, 1) := by decide +kernel
theorem dL_isOrdered_8 : decode cL_isOrdered 8 = .ok (.aload_n 0, 1) := by decide +kernel
theorem dL_isOrdered_9 : decode cL_isOrdered 9 = .ok (.iconst 0, 1) := by decide +kernel
theorem dL_isOrdered_10 : decode cL_isOrdered 10 = .ok (.iconst 0, 1) := by decide +kernel
theorem dL_isOrdered_11 : decode cL_isOrdered 11 = .ok (.iconst 1, 1) := by decide +kernel
theorem dL_isOrdered_12 : decode cL_isOrdered 12 = .ok (.invokevirtual 49, 3) := by decide +kernel
theorem dL_isOrdered_15 : decode cL_isOrdered 15 = .ok (.istore 4, 2) := by decide +kernel
theorem dL_isOrdered_17 : decode cL_isOrdered 17 = .ok (.aload_n 0, 1) := by decide +kernel
theorem dL_isOrdered_18 : decode cL_isOrdered 18 = .ok (.iconst 0, 1) := by decide +kernel
theorem dL_isOrdered_19 : decode cL_isOrdered 19 = .ok (.iconst 1, 1) := by decide +kernel
theorem dL_isOrdered_20 : decode cL_isOrdered 20 = .ok (.iconst 0, 1) := by decide +kernel
theorem dL_isOrdered_21 : decode cL_isOrdered 21 = .ok (.invokevirtual 7, 3) := by decide +kernel
theorem dL_isOrdered_24 : decode cL_isOrdered 24 = .ok (.iload_n 3, 1) := by decide +kernel
theorem dL_isOrdered_25 : decode cL_isOrdered 25 = .ok (.invokestatic 52, 3) := by decide +kernel
theorem dL_isOrdered_28 : decode cL_isOrdered 28 = .ok (.if_icmp .ne 37, 3) := by decide +kernel
theorem dL_isOrdered_31 : decode cL_isOrdered 31 = .ok (.aload_n 0, 1) := by decide +kernel
theorem dL_isOrdered_32 : decode cL_isOrdered 32 = .ok (.iconst 0, 1) := by decide +kernel
theorem dL_isOrdered_33 : decode cL_isOrdered 33 = .ok (.iconst 1, 1) := by decide +kernel
theorem dL_isOrdered_34 : decode cL_isOrdered 34 = .ok (.iconst 0, 1) := by decide +kernel
theorem dL_isOrdered_35 : decode cL_isOrdered 35 = .ok (.invokevirtual 49, 3) := by decide +kernel
theorem dL_isOrdered_38 : decode cL_isOrdered 38 = .ok (.iload 4, 2) := by decide +kernel
theorem dL_isOrdered_40 : decode cL_isOrdered 40 = .ok (.ineg, 1) := by decide +kernel
theorem dL_isOrdered_41 : decode cL_isOrdered 41 = .ok (.if_icmp .ne 24, 3) := by decide +kernel
theorem dL_isOrdered_44 : decode cL_isOrdered 44 = .ok (.aload_n 0, 1) := by decide +kernel
theorem dL_isOrdered_45 : decode cL_isOrdered 45 = .ok (.iconst 0, 1) := by decide +kernel
theorem dL_isOrdered_46 : decode cL_isOrdered 46 = .ok (.iconst 0, 1) := by decide +kernel
theorem dL_isOrdered_47 : decode cL_isOrdered 47 = .ok (.iconst 0, 1) := by decide +kernel
theorem dL_isOrdered_48 : decode cL_isOrdered 48 = .ok (.invokevirtual 7, 3) := by decide +kernel
theorem dL_isOrdered_51 : decode cL_isOrdered 51 = .ok (.iload_n 1, 1) := by decide +kernel
theorem dL_isOrdered_52 : decode cL_isOrdered 52 = .ok (.ifCond .eq 8, 3) := by decide +kernel
theorem dL_isOrdered_55 : decode cL_isOrdered 55 = .ok (.bipush 32, 2) := by decide +kernel
theorem dL_isOrdered_57 : decode cL_isOrdered 57 = .ok (.goto 5, 3) := by decide +kernel
theorem dL_isOrdered_60 : decode cL_isOrdered 60 = .ok (.bipush 26, 2) := by decide +kernel
theorem dL_isOrdered_62 : decode cL_isOrdered 62 = .ok (.if_icmp .eq 5, 3) := by decide +kernel
theorem dL_isOrdered_65 : decode cL_isOrdered 65 = .ok (.iconst 0, 1) := by decide +kernel
theorem dL_isOrdered_66 : decode cL_isOrdered 66 = .ok (.ireturn, 1) := by decide +kernel
theorem dL_isOrdered_67 : decode cL_isOrdered 67 = .ok (.iload_n 1, 1) := by decide +kernel
theorem dL_isOrdered_68 : decode cL_isOrdered 68 = .ok (.ifCond .ne 7, 3) := by decide +kernel
theorem dL_isOrdered_71 : decode cL_isOrdered 71 = .ok (.iload_n 2, 1) := by decide +kernel
theorem dL_isOrdered_72 : decode cL_isOrdered 72 = .ok (.ifCond .eq 53, 3) := by decide +kernel
theorem dL_isOrdered_75 : decode cL_isOrdered 75 = .ok (.iload_n 3, 1) := by decide +kernel
theorem dL_isOrdered_76 : decode cL_isOrdered 76 = .ok (.bipush 32, 2) := by decide +kernel
theorem dL_isOrdered_78 : decode cL_isOrdered 78 = .ok (.if_icmp .ne 45, 3) := by decide +kernel
theorem dL_isOrdered_81 : decode cL_isOrdered 81 = .ok (.iload 4, 2) := by decide +kernel
theorem dL_isOrdered_83 : decode cL_isOrdered 83 = .ok (.iload_n 1, 1) := by decide +kernel
theorem dL_isOrdered_84 : decode cL_isOrdered 84 = .ok (.ifCond .eq 11, 3) := by decide +kernel
theorem dL_isOrdered_87 : decode cL_isOrdered 87 = .ok (.iload_n 2, 1) := by decide +kernel
theorem dL_isOrdered_88 : decode cL_isOrdered 88 = .ok (.ifCond .eq 7, 3) := by decide +kernel
theorem dL_isOrdered_91 : decode cL_isOrdered 91 = .ok (.iconst 0, 1) := by decide +kernel
theorem dL_isOrdered_92 : decode cL_isOrdered 92 = .ok (.goto 12, 3) := by decide +kernel
theorem dL_isOrdered_95 : decode cL_isOrdered 95 = .ok (.iload_n 1, 1) := by decide +kernel
theorem dL_isOrdered_96 : decode cL_isOrdered 96 = .ok (.ifCond .eq 7, 3) := by decide +kernel
theorem dL_isOrdered_99 : decode cL_isOrdered 99 = .ok (.iconst 1, 1) := by decide +kernel
theorem dL_isOrdered_100 : decode cL_isOrdered 100 = .ok (.goto 4, 3) := by decide +kernel
theorem dL_isOrdered_103 : decode cL_isOrdered 103 = .ok (.iconst (-1), 1) := by decide +kernel
theorem dL_isOrdered_104 : decode cL_isOrdered 104 = .ok (.if_icmp .ne 19, 3) := by decide +kernel

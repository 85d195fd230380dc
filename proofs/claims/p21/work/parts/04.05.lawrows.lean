theorem dL_isReckoned_168 : decode cL_isReckoned 168 = .ok (.ireturn, 1) := by decide +kernel
theorem dL_isAbout_0 : decode cL_isAbout 0 = .ok (.aload_n 0, 1) := by decide +kernel
theorem dL_isAbout_1 : decode cL_isAbout 1 = .ok (.iconst 0, 1) := by decide +kernel
theorem dL_isAbout_2 : decode cL_isAbout 2 = .ok (.iconst 3, 1) := by decide +kernel
theorem dL_isAbout_3 : decode cL_isAbout 3 = .ok (.iconst 0, 1) := by decide +kernel
theorem dL_isAbout_4 : decode cL_isAbout 4 = .ok (.iconst 0, 1) := by decide +kernel
theorem dL_isAbout_5 : decode cL_isAbout 5 = .ok (.iconst 2, 1) := by decide +kernel
theorem dL_isAbout_6 : decode cL_isAbout 6 = .ok (.invokevirtual 64, 3) := by decide +kernel
theorem dL_isAbout_9 : decode cL_isAbout 9 = .ok (.istore_n 2, 1) := by decide +kernel
theorem dL_isAbout_10 : decode cL_isAbout 10 = .ok (.aload_n 0, 1) := by decide +kernel
theorem dL_isAbout_11 : decode cL_isAbout 11 = .ok (.iconst 0, 1) := by decide +kernel
theorem dL_isAbout_12 : decode cL_isAbout 12 = .ok (.iconst 4, 1) := by decide +kernel
theorem dL_isAbout_13 : decode cL_isAbout 13 = .ok (.iconst 0, 1) := by decide +kernel
theorem dL_isAbout_14 : decode cL_isAbout 14 = .ok (.iconst 0, 1) := by decide +kernel
theorem dL_isAbout_15 : decode cL_isAbout 15 = .ok (.iconst 3, 1) := by decide +kernel
theorem dL_isAbout_16 : decode cL_isAbout 16 = .ok (.invokevirtual 64, 3) := by decide +kernel
theorem dL_isAbout_19 : decode cL_isAbout 19 = .ok (.istore_n 3, 1) := by decide +kernel
theorem dL_isAbout_20 : decode cL_isAbout 20 = .ok (.aload_n 0, 1) := by decide +kernel
theorem dL_isAbout_21 : decode cL_isAbout 21 = .ok (.iconst 0, 1) := by decide +kernel
theorem dL_isAbout_22 : decode cL_isAbout 22 = .ok (.iconst 5, 1) := by decide +kernel
theorem dL_isAbout_23 : decode cL_isAbout 23 = .ok (.iconst 0, 1) := by decide +kernel
theorem dL_isAbout_24 : decode cL_isAbout 24 = .ok (.iconst 0, 1) := by decide +kernel
theorem dL_isAbout_25 : decode cL_isAbout 25 = .ok (.iconst 4, 1) := by decide +kernel
theorem dL_isAbout_26 : decode cL_isAbout 26 = .ok (.invokevirtual 64, 3) := by decide +kernel
theorem dL_isAbout_29 : decode cL_isAbout 29 = .ok (.istore 4, 2) := by decide +kernel
theorem dL_isAbout_31 : decode cL_isAbout 31 = .ok (.iload_n 1, 1) := by decide +kernel
theorem dL_isAbout_32 : decode cL_isAbout 32 = .ok (.ifCond .eq 25, 3) := by decide +kernel
theorem dL_isAbout_35 : decode cL_isAbout 35 = .ok (.iload_n 2, 1) := by decide +kernel
theorem dL_isAbout_36 : decode cL_isAbout 36 = .ok (.iconst 3, 1) := by decide +kernel
theorem dL_isAbout_37 : decode cL_isAbout 37 = .ok (.if_icmp .ne 18, 3) := by decide +kernel
theorem dL_isAbout_40 : decode cL_isAbout 40 = .ok (.iload_n 3, 1) := by decide +kernel
theorem dL_isAbout_41 : decode cL_isAbout 41 = .ok (.iconst 3, 1) := by decide +kernel
theorem dL_isAbout_42 : decode cL_isAbout 42 = .ok (.if_icmp .ne 13, 3) := by decide +kernel
theorem dL_isAbout_45 : decode cL_isAbout 45 = .ok (.iload 4, 2) := by decide +kernel
theorem dL_isAbout_47 : decode cL_isAbout 47 = .ok (.iconst 3, 1) := by decide +kernel
theorem dL_isAbout_48 : decode cL_isAbout 48 = .ok (.if_icmp .ne 7, 3) := by decide +kernel
theorem dL_isAbout_51 : decode cL_isAbout 51 = .ok (.iconst 1, 1) := by decide +kernel
theorem dL_isAbout_52 : decode cL_isAbout 52 = .ok (.goto 4, 3) := by decide +kernel
theorem dL_isAbout_55 : decode cL_isAbout 55 = .ok (.iconst 0, 1) := by decide +kernel
theorem dL_isAbout_56 : decode cL_isAbout 56 = .ok (.ireturn, 1) := by decide +kernel
theorem dL_isAbout_57 : decode cL_isAbout 57 = .ok (.aload_n 0, 1) := by decide +kernel
theorem dL_isAbout_58 : decode cL_isAbout 58 = .ok (.iconst 0, 1) := by decide +kernel
theorem dL_isAbout_59 : decode cL_isAbout 59 = .ok (.iconst 3, 1) := by decide +kernel
theorem dL_isAbout_60 : decode cL_isAbout 60 = .ok (.iconst 4, 1) := by decide +kernel
theorem dL_isAbout_61 : decode cL_isAbout 61 = .ok (.iconst 4, 1) := by decide +kernel
theorem dL_isAbout_62 : decode cL_isAbout 62 = .ok (.iconst 5, 1) := by decide +kernel
theorem dL_isAbout_63 : decode cL_isAbout 63 = .ok (.invokevirtual 64, 3) := by decide +kernel
theorem dL_isAbout_66 : decode cL_isAbout 66 = .ok (.iload 4, 2) := by decide +kernel
theorem dL_isAbout_68 : decode cL_isAbout 68 = .ok (.if_icmp .ne 53, 3) := by decide +kernel
theorem dL_isAbout_71 : decode cL_isAbout 71 = .ok (.aload_n 0, 1) := by decide +kernel
theorem dL_isAbout_72 : decode cL_isAbout 72 = .ok (.iconst 0, 1) := by decide +kernel
theorem dL_isAbout_73 : decode cL_isAbout 73 = .ok (.iconst 5, 1) := by decide +kernel
theorem dL_isAbout_74 : decode cL_isAbout 74 = .ok (.invokevirtual 60, 3) := by decide +kernel
theorem dL_isAbout_77 : decode cL_isAbout 77 = .ok (.aload_n 0, 1) := by decide +kernel
theorem dL_isAbout_78 : decode cL_isAbout 78 = .ok (.iconst 0, 1) := by decide +kernel
theorem dL_isAbout_79 : decode cL_isAbout 79 = .ok (.iconst 4, 1) := by decide +kernel
theorem dL_isAbout_80 : decode cL_isAbout 80 = .ok (.invokevirtual 60, 3) := by decide +kernel
theorem dL_isAbout_83 : decode cL_isAbout 83 = .ok (.lcmp, 1) := by decide +kernel
theorem dL_isAbout_84 : decode cL_isAbout 84 = .ok (.ifCond .ne 37, 3) := by decide +kernel
theorem dL_isAbout_87 : decode cL_isAbout 87 = .ok (.aload_n 0, 1) := by decide +kernel
theorem dL_isAbout_88 : decode cL_isAbout 88 = .ok (.iconst 0, 1) := by decide +kernel
theorem dL_isAbout_89 : decode cL_isAbout 89 = .ok (.iconst 4, 1) := by decide +kernel
theorem dL_isAbout_90 : decode cL_isAbout 90 = .ok (.iconst 4, 1) := by decide +kernel
theorem dL_isAbout_91 : decode cL_isAbout 91 = .ok (.iconst 4, 1) := by decide +kernel
theorem dL_isAbout_92 : decode cL_isAbout 92 = .ok (.iconst 5, 1) := by decide +kernel
theorem dL_isAbout_93 : decode cL_isAbout 93 = .ok (.invokevirtual 64, 3) := by decide +kernel
theorem dL_isAbout_96 : decode cL_isAbout 96 = .ok (.iload 4, 2) := by decide +kernel
theorem dL_isAbout_98 : decode cL_isAbout 98 = .ok (.if_icmp .ne 23, 3) := by decide +kernel
theorem dL_isAbout_101 : decode cL_isAbout 101 = .ok (.aload_n 0, 1) := by decide +kernel
theorem dL_isAbout_102 : decode cL_isAbout 102 = .ok (.iconst 0, 1) := by decide +kernel
theorem dL_isAbout_103 : decode cL_isAbout 103 = .ok (.iconst 5, 1) := by decide +kernel
theorem dL_isAbout_104 : decode cL_isAbout 104 = .ok (.invokevirtual 60, 3) := by decide +kernel
theorem dL_isAbout_107 : decode cL_isAbout 107 = .ok (.aload_n 0, 1) := by decide +kernel
theorem dL_isAbout_108 : decode cL_isAbout 108 = .ok (.iconst 0, 1) := by decide +kernel
theorem dL_isAbout_109 : decode cL_isAbout 109 = .ok (.iconst 4, 1) := by decide +kernel

theorem dL_cell_0 : decode cL_cell 0 = .ok (.iload_n 1, 1) := by decide +kernel
theorem dL_cell_1 : decode cL_cell 1 = .ok (.aload_n 0, 1) := by decide +kernel
theorem dL_cell_2 : decode cL_cell 2 = .ok (.arraylength, 1) := by decide +kernel
theorem dL_cell_3 : decode cL_cell 3 = .ok (.if_icmp .ge 9, 3) := by decide +kernel
theorem dL_cell_6 : decode cL_cell 6 = .ok (.aload_n 0, 1) := by decide +kernel
theorem dL_cell_7 : decode cL_cell 7 = .ok (.iload_n 1, 1) := by decide +kernel
theorem dL_cell_8 : decode cL_cell 8 = .ok (.iaload, 1) := by decide +kernel
theorem dL_cell_9 : decode cL_cell 9 = .ok (.goto 8, 3) := by decide +kernel
theorem dL_cell_12 : decode cL_cell 12 = .ok (.sipush 12345, 3) := by decide +kernel
theorem dL_cell_15 : decode cL_cell 15 = .ok (.iload_n 1, 1) := by decide +kernel
theorem dL_cell_16 : decode cL_cell 16 = .ok (.imul, 1) := by decide +kernel
theorem dL_cell_17 : decode cL_cell 17 = .ok (.ireturn, 1) := by decide +kernel
theorem dL_round_0 : decode cL_round 0 = .ok (.iload_n 0, 1) := by decide +kernel
theorem dL_round_1 : decode cL_round 1 = .ok (.bipush 41, 2) := by decide +kernel
theorem dL_round_3 : decode cL_round 3 = .ok (.if_icmp .ne 8, 3) := by decide +kernel
theorem dL_round_6 : decode cL_round 6 = .ok (.bipush 52, 2) := by decide +kernel
theorem dL_round_8 : decode cL_round 8 = .ok (.goto 15, 3) := by decide +kernel
theorem dL_round_11 : decode cL_round 11 = .ok (.iload_n 0, 1) := by decide +kernel
theorem dL_round_12 : decode cL_round 12 = .ok (.bipush 52, 2) := by decide +kernel
theorem dL_round_14 : decode cL_round 14 = .ok (.if_icmp .ne 8, 3) := by decide +kernel
theorem dL_round_17 : decode cL_round 17 = .ok (.bipush 41, 2) := by decide +kernel
theorem dL_round_19 : decode cL_round 19 = .ok (.goto 4, 3) := by decide +kernel
theorem dL_round_22 : decode cL_round 22 = .ok (.iload_n 0, 1) := by decide +kernel
theorem dL_round_23 : decode cL_round 23 = .ok (.ireturn, 1) := by decide +kernel
theorem dL_isNone_0 : decode cL_isNone 0 = .ok (.aload_n 0, 1) := by decide +kernel
theorem dL_isNone_1 : decode cL_isNone 1 = .ok (.iconst 0, 1) := by decide +kernel
theorem dL_isNone_2 : decode cL_isNone 2 = .ok (.iload_n 1, 1) := by decide +kernel
theorem dL_isNone_3 : decode cL_isNone 3 = .ok (.iload_n 1, 1) := by decide +kernel
theorem dL_isNone_4 : decode cL_isNone 4 = .ok (.invokevirtual 7, 3) := by decide +kernel
theorem dL_isNone_7 : decode cL_isNone 7 = .ok (.bipush 32, 2) := by decide +kernel
theorem dL_isNone_9 : decode cL_isNone 9 = .ok (.if_icmp .ne 7, 3) := by decide +kernel
theorem dL_isNone_12 : decode cL_isNone 12 = .ok (.iconst 1, 1) := by decide +kernel
theorem dL_isNone_13 : decode cL_isNone 13 = .ok (.goto 4, 3) := by decide +kernel
theorem dL_isNone_16 : decode cL_isNone 16 = .ok (.iconst 0, 1) := by decide +kernel
theorem dL_isNone_17 : decode cL_isNone 17 = .ok (.ireturn, 1) := by decide +kernel
theorem dL_law_0 : decode cL_law 0 = .ok (.new 8, 3) := by decide +kernel
theorem dL_law_3 : decode cL_law 3 = .ok (.dup, 1) := by decide +kernel
theorem dL_law_4 : decode cL_law 4 = .ok (.invokespecial 13, 3) := by decide +kernel
theorem dL_law_7 : decode cL_law 7 = .ok (.astore_n 1, 1) := by decide +kernel
theorem dL_law_8 : decode cL_law 8 = .ok (.aload_n 0, 1) := by decide +kernel
theorem dL_law_9 : decode cL_law 9 = .ok (.iconst 0, 1) := by decide +kernel
theorem dL_law_10 : decode cL_law 10 = .ok (.invokestatic 14, 3) := by decide +kernel
theorem dL_law_13 : decode cL_law 13 = .ok (.iconst 1, 1) := by decide +kernel
theorem dL_law_14 : decode cL_law 14 = .ok (.iand, 1) := by decide +kernel
theorem dL_law_15 : decode cL_law 15 = .ok (.iconst 1, 1) := by decide +kernel
theorem dL_law_16 : decode cL_law 16 = .ok (.if_icmp .ne 7, 3) := by decide +kernel
theorem dL_law_19 : decode cL_law 19 = .ok (.iconst 1, 1) := by decide +kernel
theorem dL_law_20 : decode cL_law 20 = .ok (.goto 4, 3) := by decide +kernel
theorem dL_law_23 : decode cL_law 23 = .ok (.iconst 0, 1) := by decide +kernel
theorem dL_law_24 : decode cL_law 24 = .ok (.istore_n 2, 1) := by decide +kernel
theorem dL_law_25 : decode cL_law 25 = .ok (.aload_n 1, 1) := by decide +kernel
theorem dL_law_26 : decode cL_law 26 = .ok (.bipush 12, 2) := by decide +kernel
theorem dL_law_28 : decode cL_law 28 = .ok (.iload_n 2, 1) := by decide +kernel
theorem dL_law_29 : decode cL_law 29 = .ok (.invokevirtual 20, 3) := by decide +kernel
theorem dL_law_32 : decode cL_law 32 = .ok (.pop, 1) := by decide +kernel
theorem dL_law_33 : decode cL_law 33 = .ok (.iconst 1, 1) := by decide +kernel
theorem dL_law_34 : decode cL_law 34 = .ok (.istore_n 3, 1) := by decide +kernel
theorem dL_law_35 : decode cL_law 35 = .ok (.iload_n 3, 1) := by decide +kernel
theorem dL_law_36 : decode cL_law 36 = .ok (.iconst 3, 1) := by decide +kernel
theorem dL_law_37 : decode cL_law 37 = .ok (.iadd, 1) := by decide +kernel
theorem dL_law_38 : decode cL_law 38 = .ok (.bipush 60, 2) := by decide +kernel
theorem dL_law_40 : decode cL_law 40 = .ok (.if_icmp .ge 179, 3) := by decide +kernel
theorem dL_law_43 : decode cL_law 43 = .ok (.iload_n 3, 1) := by decide +kernel
theorem dL_law_44 : decode cL_law 44 = .ok (.iconst 1, 1) := by decide +kernel
theorem dL_law_45 : decode cL_law 45 = .ok (.if_icmp .eq 9, 3) := by decide +kernel
theorem dL_law_48 : decode cL_law 48 = .ok (.iload_n 3, 1) := by decide +kernel
theorem dL_law_49 : decode cL_law 49 = .ok (.aload_n 0, 1) := by decide +kernel
theorem dL_law_50 : decode cL_law 50 = .ok (.arraylength, 1) := by decide +kernel
theorem dL_law_51 : decode cL_law 51 = .ok (.if_icmp .ge 168, 3) := by decide +kernel
theorem dL_law_54 : decode cL_law 54 = .ok (.aload_n 0, 1) := by decide +kernel
theorem dL_law_55 : decode cL_law 55 = .ok (.iload_n 3, 1) := by decide +kernel
theorem dL_law_56 : decode cL_law 56 = .ok (.invokestatic 14, 3) := by decide +kernel
theorem dL_law_59 : decode cL_law 59 = .ok (.i2l, 1) := by decide +kernel
theorem dL_law_60 : decode cL_law 60 = .ok (.bipush 32, 2) := by decide +kernel
theorem dL_law_62 : decode cL_law 62 = .ok (.lshl, 1) := by decide +kernel

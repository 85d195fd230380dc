theorem dL_isLeft_52 : decode cL_isLeft 52 = .ok (.iconst 4, 1) := by decide +kernel
theorem dL_isLeft_53 : decode cL_isLeft 53 = .ok (.invokevirtual 7, 3) := by decide +kernel
theorem dL_isLeft_56 : decode cL_isLeft 56 = .ok (.bipush 41, 2) := by decide +kernel
theorem dL_isLeft_58 : decode cL_isLeft 58 = .ok (.if_icmp .ne 16, 3) := by decide +kernel
theorem dL_isLeft_61 : decode cL_isLeft 61 = .ok (.iload_n 1, 1) := by decide +kernel
theorem dL_isLeft_62 : decode cL_isLeft 62 = .ok (.iconst 2, 1) := by decide +kernel
theorem dL_isLeft_63 : decode cL_isLeft 63 = .ok (.ishr, 1) := by decide +kernel
theorem dL_isLeft_64 : decode cL_isLeft 64 = .ok (.iload_n 2, 1) := by decide +kernel
theorem dL_isLeft_65 : decode cL_isLeft 65 = .ok (.iconst 2, 1) := by decide +kernel
theorem dL_isLeft_66 : decode cL_isLeft 66 = .ok (.ishr, 1) := by decide +kernel
theorem dL_isLeft_67 : decode cL_isLeft 67 = .ok (.if_icmp .ne 7, 3) := by decide +kernel
theorem dL_isLeft_70 : decode cL_isLeft 70 = .ok (.iconst 1, 1) := by decide +kernel
theorem dL_isLeft_71 : decode cL_isLeft 71 = .ok (.goto 4, 3) := by decide +kernel
theorem dL_isLeft_74 : decode cL_isLeft 74 = .ok (.iconst 0, 1) := by decide +kernel
theorem dL_isLeft_75 : decode cL_isLeft 75 = .ok (.ireturn, 1) := by decide +kernel
theorem dL_isHeld_0 : decode cL_isHeld 0 = .ok (.aload_n 0, 1) := by decide +kernel
theorem dL_isHeld_1 : decode cL_isHeld 1 = .ok (.iconst 0, 1) := by decide +kernel
theorem dL_isHeld_2 : decode cL_isHeld 2 = .ok (.iconst 0, 1) := by decide +kernel
theorem dL_isHeld_3 : decode cL_isHeld 3 = .ok (.iconst 0, 1) := by decide +kernel
theorem dL_isHeld_4 : decode cL_isHeld 4 = .ok (.bipush 6, 2) := by decide +kernel
theorem dL_isHeld_6 : decode cL_isHeld 6 = .ok (.iconst 0, 1) := by decide +kernel
theorem dL_isHeld_7 : decode cL_isHeld 7 = .ok (.invokevirtual 68, 3) := by decide +kernel
theorem dL_isHeld_10 : decode cL_isHeld 10 = .ok (.pop, 1) := by decide +kernel
theorem dL_isHeld_11 : decode cL_isHeld 11 = .ok (.aload_n 0, 1) := by decide +kernel
theorem dL_isHeld_12 : decode cL_isHeld 12 = .ok (.iconst 0, 1) := by decide +kernel
theorem dL_isHeld_13 : decode cL_isHeld 13 = .ok (.iconst 0, 1) := by decide +kernel
theorem dL_isHeld_14 : decode cL_isHeld 14 = .ok (.iconst 0, 1) := by decide +kernel
theorem dL_isHeld_15 : decode cL_isHeld 15 = .ok (.bipush 7, 2) := by decide +kernel
theorem dL_isHeld_17 : decode cL_isHeld 17 = .ok (.iconst 0, 1) := by decide +kernel
theorem dL_isHeld_18 : decode cL_isHeld 18 = .ok (.invokevirtual 68, 3) := by decide +kernel
theorem dL_isHeld_21 : decode cL_isHeld 21 = .ok (.pop, 1) := by decide +kernel
theorem dL_isHeld_22 : decode cL_isHeld 22 = .ok (.aload_n 0, 1) := by decide +kernel
theorem dL_isHeld_23 : decode cL_isHeld 23 = .ok (.iconst 0, 1) := by decide +kernel
theorem dL_isHeld_24 : decode cL_isHeld 24 = .ok (.iconst 1, 1) := by decide +kernel
theorem dL_isHeld_25 : decode cL_isHeld 25 = .ok (.iconst 0, 1) := by decide +kernel
theorem dL_isHeld_26 : decode cL_isHeld 26 = .ok (.bipush 8, 2) := by decide +kernel
theorem dL_isHeld_28 : decode cL_isHeld 28 = .ok (.iconst 0, 1) := by decide +kernel
theorem dL_isHeld_29 : decode cL_isHeld 29 = .ok (.invokevirtual 68, 3) := by decide +kernel
theorem dL_isHeld_32 : decode cL_isHeld 32 = .ok (.pop, 1) := by decide +kernel
theorem dL_isHeld_33 : decode cL_isHeld 33 = .ok (.aload_n 0, 1) := by decide +kernel
theorem dL_isHeld_34 : decode cL_isHeld 34 = .ok (.iconst 0, 1) := by decide +kernel
theorem dL_isHeld_35 : decode cL_isHeld 35 = .ok (.iconst 1, 1) := by decide +kernel
theorem dL_isHeld_36 : decode cL_isHeld 36 = .ok (.iconst 0, 1) := by decide +kernel
theorem dL_isHeld_37 : decode cL_isHeld 37 = .ok (.bipush 9, 2) := by decide +kernel
theorem dL_isHeld_39 : decode cL_isHeld 39 = .ok (.iconst 0, 1) := by decide +kernel
theorem dL_isHeld_40 : decode cL_isHeld 40 = .ok (.invokevirtual 68, 3) := by decide +kernel
theorem dL_isHeld_43 : decode cL_isHeld 43 = .ok (.pop, 1) := by decide +kernel
theorem dL_isHeld_44 : decode cL_isHeld 44 = .ok (.aload_n 0, 1) := by decide +kernel
theorem dL_isHeld_45 : decode cL_isHeld 45 = .ok (.iconst 0, 1) := by decide +kernel
theorem dL_isHeld_46 : decode cL_isHeld 46 = .ok (.bipush 8, 2) := by decide +kernel
theorem dL_isHeld_48 : decode cL_isHeld 48 = .ok (.iload_n 1, 1) := by decide +kernel
theorem dL_isHeld_49 : decode cL_isHeld 49 = .ok (.iadd, 1) := by decide +kernel
theorem dL_isHeld_50 : decode cL_isHeld 50 = .ok (.iconst 0, 1) := by decide +kernel
theorem dL_isHeld_51 : decode cL_isHeld 51 = .ok (.iconst 1, 1) := by decide +kernel
theorem dL_isHeld_52 : decode cL_isHeld 52 = .ok (.bipush 10, 2) := by decide +kernel
theorem dL_isHeld_54 : decode cL_isHeld 54 = .ok (.invokevirtual 64, 3) := by decide +kernel
theorem dL_isHeld_57 : decode cL_isHeld 57 = .ok (.istore_n 2, 1) := by decide +kernel
theorem dL_isHeld_58 : decode cL_isHeld 58 = .ok (.aload_n 0, 1) := by decide +kernel
theorem dL_isHeld_59 : decode cL_isHeld 59 = .ok (.iconst 0, 1) := by decide +kernel
theorem dL_isHeld_60 : decode cL_isHeld 60 = .ok (.invokestatic 72, 3) := by decide +kernel
theorem dL_isHeld_63 : decode cL_isHeld 63 = .ok (.ifCond .ne 32, 3) := by decide +kernel
theorem dL_isHeld_66 : decode cL_isHeld 66 = .ok (.aload_n 0, 1) := by decide +kernel
theorem dL_isHeld_67 : decode cL_isHeld 67 = .ok (.iconst 1, 1) := by decide +kernel
theorem dL_isHeld_68 : decode cL_isHeld 68 = .ok (.invokestatic 72, 3) := by decide +kernel
theorem dL_isHeld_71 : decode cL_isHeld 71 = .ok (.ifCond .ne 24, 3) := by decide +kernel
theorem dL_isHeld_74 : decode cL_isHeld 74 = .ok (.iload_n 1, 1) := by decide +kernel
theorem dL_isHeld_75 : decode cL_isHeld 75 = .ok (.iconst 3, 1) := by decide +kernel
theorem dL_isHeld_76 : decode cL_isHeld 76 = .ok (.if_icmp .ne 23, 3) := by decide +kernel
theorem dL_isHeld_79 : decode cL_isHeld 79 = .ok (.aload_n 0, 1) := by decide +kernel
theorem dL_isHeld_80 : decode cL_isHeld 80 = .ok (.iconst 0, 1) := by decide +kernel
theorem dL_isHeld_81 : decode cL_isHeld 81 = .ok (.bipush 6, 2) := by decide +kernel
theorem dL_isHeld_83 : decode cL_isHeld 83 = .ok (.iconst 1, 1) := by decide +kernel
theorem dL_isHeld_84 : decode cL_isHeld 84 = .ok (.iconst 1, 1) := by decide +kernel
theorem dL_isHeld_85 : decode cL_isHeld 85 = .ok (.bipush 11, 2) := by decide +kernel
theorem dL_isHeld_87 : decode cL_isHeld 87 = .ok (.invokevirtual 64, 3) := by decide +kernel

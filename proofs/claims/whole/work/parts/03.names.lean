theorem dX6_sort_0 : decode cX6_sort 0 = .ok (.aload_n 0, 1) := by decide +kernel
theorem dX6_sort_1 : decode cX6_sort 1 = .ok (.iload_n 1, 1) := by decide +kernel
theorem dX6_sort_2 : decode cX6_sort 2 = .ok (.invokevirtual 51, 3) := by decide +kernel
theorem dX6_sort_5 : decode cX6_sort 5 = .ok (.astore_n 3, 1) := by decide +kernel
theorem dX6_sort_6 : decode cX6_sort 6 = .ok (.aload_n 3, 1) := by decide +kernel
theorem dX6_sort_7 : decode cX6_sort 7 = .ok (.ifnonnull 9, 3) := by decide +kernel
theorem dX6_sort_10 : decode cX6_sort 10 = .ok (.aload_n 0, 1) := by decide +kernel
theorem dX6_sort_11 : decode cX6_sort 11 = .ok (.iconst 1, 1) := by decide +kernel
theorem dX6_sort_12 : decode cX6_sort 12 = .ok (.invokevirtual 32, 3) := by decide +kernel
theorem dX6_sort_15 : decode cX6_sort 15 = .ok (.ireturn, 1) := by decide +kernel
theorem dX6_sort_16 : decode cX6_sort 16 = .ok (.iload_n 2, 1) := by decide +kernel
theorem dX6_sort_17 : decode cX6_sort 17 = .ok (.ifCond .lt 8, 3) := by decide +kernel
theorem dX6_sort_20 : decode cX6_sort 20 = .ok (.iload_n 2, 1) := by decide +kernel
theorem dX6_sort_21 : decode cX6_sort 21 = .ok (.iconst 2, 1) := by decide +kernel
theorem dX6_sort_22 : decode cX6_sort 22 = .ok (.if_icmp .le 9, 3) := by decide +kernel
theorem dX6_sort_25 : decode cX6_sort 25 = .ok (.aload_n 0, 1) := by decide +kernel
theorem dX6_sort_26 : decode cX6_sort 26 = .ok (.iconst 2, 1) := by decide +kernel
theorem dX6_sort_27 : decode cX6_sort 27 = .ok (.invokevirtual 32, 3) := by decide +kernel
theorem dX6_sort_30 : decode cX6_sort 30 = .ok (.ireturn, 1) := by decide +kernel
theorem dX6_sort_31 : decode cX6_sort 31 = .ok (.aload_n 0, 1) := by decide +kernel
theorem dX6_sort_32 : decode cX6_sort 32 = .ok (.aload_n 0, 1) := by decide +kernel
theorem dX6_sort_33 : decode cX6_sort 33 = .ok (.getfield 18, 3) := by decide +kernel
theorem dX6_sort_36 : decode cX6_sort 36 = .ok (.aload_n 3, 1) := by decide +kernel
theorem dX6_sort_37 : decode cX6_sort 37 = .ok (.iload_n 2, 1) := by decide +kernel
theorem dX6_sort_38 : decode cX6_sort 38 = .ok (.invokevirtual 117, 3) := by decide +kernel
theorem dX6_sort_41 : decode cX6_sort 41 = .ok (.invokevirtual 48, 3) := by decide +kernel
theorem dX6_sort_44 : decode cX6_sort 44 = .ok (.ireturn, 1) := by decide +kernel
theorem dX6_act_0 : decode cX6_act 0 = .ok (.aload_n 0, 1) := by decide +kernel
theorem dX6_act_1 : decode cX6_act 1 = .ok (.iload_n 1, 1) := by decide +kernel
theorem dX6_act_2 : decode cX6_act 2 = .ok (.invokevirtual 51, 3) := by decide +kernel
theorem dX6_act_5 : decode cX6_act 5 = .ok (.astore 6, 2) := by decide +kernel
theorem dX6_act_7 : decode cX6_act 7 = .ok (.aload 6, 2) := by decide +kernel
theorem dX6_act_9 : decode cX6_act 9 = .ok (.ifnonnull 9, 3) := by decide +kernel
theorem dX6_act_12 : decode cX6_act 12 = .ok (.aload_n 0, 1) := by decide +kernel
theorem dX6_act_13 : decode cX6_act 13 = .ok (.iconst 1, 1) := by decide +kernel
theorem dX6_act_14 : decode cX6_act 14 = .ok (.invokevirtual 32, 3) := by decide +kernel
theorem dX6_act_17 : decode cX6_act 17 = .ok (.ireturn, 1) := by decide +kernel
theorem dX6_act_18 : decode cX6_act 18 = .ok (.iload_n 2, 1) := by decide +kernel
theorem dX6_act_19 : decode cX6_act 19 = .ok (.ifCond .lt 38, 3) := by decide +kernel
theorem dX6_act_22 : decode cX6_act 22 = .ok (.iload_n 2, 1) := by decide +kernel
theorem dX6_act_23 : decode cX6_act 23 = .ok (.bipush 13, 2) := by decide +kernel
theorem dX6_act_25 : decode cX6_act 25 = .ok (.if_icmp .gt 32, 3) := by decide +kernel
theorem dX6_act_28 : decode cX6_act 28 = .ok (.aload 6, 2) := by decide +kernel
theorem dX6_act_30 : decode cX6_act 30 = .ok (.iload_n 3, 1) := by decide +kernel
theorem dX6_act_31 : decode cX6_act 31 = .ok (.invokevirtual 55, 3) := by decide +kernel
theorem dX6_act_34 : decode cX6_act 34 = .ok (.ifCond .eq 23, 3) := by decide +kernel
theorem dX6_act_37 : decode cX6_act 37 = .ok (.aload 6, 2) := by decide +kernel
theorem dX6_act_39 : decode cX6_act 39 = .ok (.iload 4, 2) := by decide +kernel
theorem dX6_act_41 : decode cX6_act 41 = .ok (.invokevirtual 55, 3) := by decide +kernel
theorem dX6_act_44 : decode cX6_act 44 = .ok (.ifCond .eq 13, 3) := by decide +kernel
theorem dX6_act_47 : decode cX6_act 47 = .ok (.aload 6, 2) := by decide +kernel
theorem dX6_act_49 : decode cX6_act 49 = .ok (.iload 5, 2) := by decide +kernel
theorem dX6_act_51 : decode cX6_act 51 = .ok (.invokevirtual 55, 3) := by decide +kernel
theorem dX6_act_54 : decode cX6_act 54 = .ok (.ifCond .ne 9, 3) := by decide +kernel
theorem dX6_act_57 : decode cX6_act 57 = .ok (.aload_n 0, 1) := by decide +kernel
theorem dX6_act_58 : decode cX6_act 58 = .ok (.iconst 2, 1) := by decide +kernel
theorem dX6_act_59 : decode cX6_act 59 = .ok (.invokevirtual 32, 3) := by decide +kernel
theorem dX6_act_62 : decode cX6_act 62 = .ok (.ireturn, 1) := by decide +kernel
theorem dX6_act_63 : decode cX6_act 63 = .ok (.aload 6, 2) := by decide +kernel
theorem dX6_act_65 : decode cX6_act 65 = .ok (.getfield 59, 3) := by decide +kernel
theorem dX6_act_68 : decode cX6_act 68 = .ok (.iload_n 2, 1) := by decide +kernel
theorem dX6_act_69 : decode cX6_act 69 = .ok (.aload 6, 2) := by decide +kernel
theorem dX6_act_71 : decode cX6_act 71 = .ok (.getfield 80, 3) := by decide +kernel
theorem dX6_act_74 : decode cX6_act 74 = .ok (.iload_n 3, 1) := by decide +kernel
theorem dX6_act_75 : decode cX6_act 75 = .ok (.laload, 1) := by decide +kernel
theorem dX6_act_76 : decode cX6_act 76 = .ok (.aload 6, 2) := by decide +kernel
theorem dX6_act_78 : decode cX6_act 78 = .ok (.getfield 80, 3) := by decide +kernel
theorem dX6_act_81 : decode cX6_act 81 = .ok (.iload 4, 2) := by decide +kernel
theorem dX6_act_83 : decode cX6_act 83 = .ok (.laload, 1) := by decide +kernel
theorem dX6_act_84 : decode cX6_act 84 = .ok (.invokestatic 121, 3) := by decide +kernel
theorem dX6_act_87 : decode cX6_act 87 = .ok (.lstore 7, 2) := by decide +kernel
theorem dX6_act_89 : decode cX6_act 89 = .ok (.aload_n 0, 1) := by decide +kernel
theorem dX6_act_90 : decode cX6_act 90 = .ok (.aload 6, 2) := by decide +kernel
theorem dX6_act_92 : decode cX6_act 92 = .ok (.iload 5, 2) := by decide +kernel
theorem dX6_act_94 : decode cX6_act 94 = .ok (.lload 7, 2) := by decide +kernel
theorem dX6_act_96 : decode cX6_act 96 = .ok (.invokevirtual 66, 3) := by decide +kernel
theorem dX6_act_99 : decode cX6_act 99 = .ok (.invokevirtual 48, 3) := by decide +kernel
theorem dX6_act_102 : decode cX6_act 102 = .ok (.ireturn, 1) := by decide +kernel
theorem dX6_step_0 : decode cX6_step 0 = .ok (.aload_n 0, 1) := by decide +kernel
theorem dX6_step_1 : decode cX6_step 1 = .ok (.iload_n 1, 1) := by decide +kernel
theorem dX6_step_2 : decode cX6_step 2 = .ok (.invokevirtual 51, 3) := by decide +kernel
theorem dX6_step_5 : decode cX6_step 5 = .ok (.astore 4, 2) := by decide +kernel
theorem dX6_step_7 : decode cX6_step 7 = .ok (.aload 4, 2) := by decide +kernel
theorem dX6_step_9 : decode cX6_step 9 = .ok (.ifnonnull 9, 3) := by decide +kernel
theorem dX6_step_12 : decode cX6_step 12 = .ok (.aload_n 0, 1) := by decide +kernel
theorem dX6_step_13 : decode cX6_step 13 = .ok (.iconst 1, 1) := by decide +kernel
theorem dX6_step_14 : decode cX6_step 14 = .ok (.invokevirtual 32, 3) := by decide +kernel
theorem dX6_step_17 : decode cX6_step 17 = .ok (.ireturn, 1) := by decide +kernel
theorem dX6_step_18 : decode cX6_step 18 = .ok (.aload 4, 2) := by decide +kernel
theorem dX6_step_20 : decode cX6_step 20 = .ok (.iload_n 2, 1) := by decide +kernel
theorem dX6_step_21 : decode cX6_step 21 = .ok (.invokevirtual 55, 3) := by decide +kernel
theorem dX6_step_24 : decode cX6_step 24 = .ok (.ifCond .eq 15, 3) := by decide +kernel
theorem dX6_step_27 : decode cX6_step 27 = .ok (.iload_n 3, 1) := by decide +kernel
theorem dX6_step_28 : decode cX6_step 28 = .ok (.ldc 125, 2) := by decide +kernel
theorem dX6_step_30 : decode cX6_step 30 = .ok (.if_icmp .lt 9, 3) := by decide +kernel
theorem dX6_step_33 : decode cX6_step 33 = .ok (.iload_n 3, 1) := by decide +kernel
theorem dX6_step_34 : decode cX6_step 34 = .ok (.ldc 126, 2) := by decide +kernel
theorem dX6_step_36 : decode cX6_step 36 = .ok (.if_icmp .le 9, 3) := by decide +kernel
theorem dX6_step_39 : decode cX6_step 39 = .ok (.aload_n 0, 1) := by decide +kernel
theorem dX6_step_40 : decode cX6_step 40 = .ok (.iconst 2, 1) := by decide +kernel
theorem dX6_step_41 : decode cX6_step 41 = .ok (.invokevirtual 32, 3) := by decide +kernel
theorem dX6_step_44 : decode cX6_step 44 = .ok (.ireturn, 1) := by decide +kernel
theorem dX6_step_45 : decode cX6_step 45 = .ok (.aload 4, 2) := by decide +kernel
theorem dX6_step_47 : decode cX6_step 47 = .ok (.getfield 59, 3) := by decide +kernel
theorem dX6_step_50 : decode cX6_step 50 = .ok (.astore 5, 2) := by decide +kernel
theorem dX6_step_52 : decode cX6_step 52 = .ok (.aload 4, 2) := by decide +kernel
theorem dX6_step_54 : decode cX6_step 54 = .ok (.getfield 80, 3) := by decide +kernel
theorem dX6_step_57 : decode cX6_step 57 = .ok (.iload_n 2, 1) := by decide +kernel
theorem dX6_step_58 : decode cX6_step 58 = .ok (.laload, 1) := by decide +kernel
theorem dX6_step_59 : decode cX6_step 59 = .ok (.lstore 6, 2) := by decide +kernel
theorem dX6_step_61 : decode cX6_step 61 = .ok (.aload 5, 2) := by decide +kernel
theorem dX6_step_63 : decode cX6_step 63 = .ok (.lload 6, 2) := by decide +kernel
theorem dX6_step_65 : decode cX6_step 65 = .ok (.iload_n 3, 1) := by decide +kernel
theorem dX6_step_66 : decode cX6_step 66 = .ok (.invokevirtual 127, 3) := by decide +kernel
theorem dX6_step_69 : decode cX6_step 69 = .ok (.lstore 8, 2) := by decide +kernel
theorem dX6_step_71 : decode cX6_step 71 = .ok (.aload 4, 2) := by decide +kernel
theorem dX6_step_73 : decode cX6_step 73 = .ok (.iload_n 2, 1) := by decide +kernel
theorem dX6_step_74 : decode cX6_step 74 = .ok (.lload 8, 2) := by decide +kernel
theorem dX6_step_76 : decode cX6_step 76 = .ok (.invokevirtual 66, 3) := by decide +kernel
theorem dX6_step_79 : decode cX6_step 79 = .ok (.pop, 1) := by decide +kernel
theorem dX6_step_80 : decode cX6_step 80 = .ok (.aload_n 0, 1) := by decide +kernel
theorem dX6_step_81 : decode cX6_step 81 = .ok (.aload 5, 2) := by decide +kernel
theorem dX6_step_83 : decode cX6_step 83 = .ok (.lload 8, 2) := by decide +kernel
theorem dX6_step_85 : decode cX6_step 85 = .ok (.invokevirtual 131, 3) := by decide +kernel
theorem dX6_step_88 : decode cX6_step 88 = .ok (.aload 5, 2) := by decide +kernel
theorem dX6_step_90 : decode cX6_step 90 = .ok (.lload 6, 2) := by decide +kernel
theorem dX6_step_92 : decode cX6_step 92 = .ok (.invokevirtual 131, 3) := by decide +kernel
theorem dX6_step_95 : decode cX6_step 95 = .ok (.lsub, 1) := by decide +kernel
theorem dX6_step_96 : decode cX6_step 96 = .ok (.invokestatic 134, 3) := by decide +kernel
theorem dX6_step_99 : decode cX6_step 99 = .ok (.l2i, 1) := by decide +kernel
theorem dX6_step_100 : decode cX6_step 100 = .ok (.invokevirtual 48, 3) := by decide +kernel
theorem dX6_step_103 : decode cX6_step 103 = .ok (.ireturn, 1) := by decide +kernel
theorem dX6_least_0 : decode cX6_least 0 = .ok (.aload_n 0, 1) := by decide +kernel
theorem dX6_least_1 : decode cX6_least 1 = .ok (.iload_n 1, 1) := by decide +kernel
theorem dX6_least_2 : decode cX6_least 2 = .ok (.invokevirtual 51, 3) := by decide +kernel
theorem dX6_least_5 : decode cX6_least 5 = .ok (.astore_n 2, 1) := by decide +kernel
theorem dX6_least_6 : decode cX6_least 6 = .ok (.aload_n 2, 1) := by decide +kernel
theorem dX6_least_7 : decode cX6_least 7 = .ok (.ifnonnull 9, 3) := by decide +kernel
theorem dX6_least_10 : decode cX6_least 10 = .ok (.aload_n 0, 1) := by decide +kernel
theorem dX6_least_11 : decode cX6_least 11 = .ok (.iconst 1, 1) := by decide +kernel
theorem dX6_least_12 : decode cX6_least 12 = .ok (.invokevirtual 32, 3) := by decide +kernel
theorem dX6_least_15 : decode cX6_least 15 = .ok (.ireturn, 1) := by decide +kernel
theorem dX6_least_16 : decode cX6_least 16 = .ok (.aload_n 0, 1) := by decide +kernel
theorem dX6_least_17 : decode cX6_least 17 = .ok (.aload_n 2, 1) := by decide +kernel
theorem dX6_least_18 : decode cX6_least 18 = .ok (.iconst 0, 1) := by decide +kernel
theorem dX6_least_19 : decode cX6_least 19 = .ok (.invokevirtual 137, 3) := by decide +kernel
theorem dX6_least_22 : decode cX6_least 22 = .ok (.invokevirtual 48, 3) := by decide +kernel
theorem dX6_least_25 : decode cX6_least 25 = .ok (.ireturn, 1) := by decide +kernel
theorem dX6_greatest_0 : decode cX6_greatest 0 = .ok (.aload_n 0, 1) := by decide +kernel
theorem dX6_greatest_1 : decode cX6_greatest 1 = .ok (.iload_n 1, 1) := by decide +kernel
theorem dX6_greatest_2 : decode cX6_greatest 2 = .ok (.invokevirtual 51, 3) := by decide +kernel
theorem dX6_greatest_5 : decode cX6_greatest 5 = .ok (.astore_n 2, 1) := by decide +kernel
theorem dX6_greatest_6 : decode cX6_greatest 6 = .ok (.aload_n 2, 1) := by decide +kernel
theorem dX6_greatest_7 : decode cX6_greatest 7 = .ok (.ifnonnull 9, 3) := by decide +kernel
theorem dX6_greatest_10 : decode cX6_greatest 10 = .ok (.aload_n 0, 1) := by decide +kernel
theorem dX6_greatest_11 : decode cX6_greatest 11 = .ok (.iconst 1, 1) := by decide +kernel
theorem dX6_greatest_12 : decode cX6_greatest 12 = .ok (.invokevirtual 32, 3) := by decide +kernel
theorem dX6_greatest_15 : decode cX6_greatest 15 = .ok (.ireturn, 1) := by decide +kernel
theorem dX6_greatest_16 : decode cX6_greatest 16 = .ok (.aload_n 0, 1) := by decide +kernel
theorem dX6_greatest_17 : decode cX6_greatest 17 = .ok (.aload_n 2, 1) := by decide +kernel
theorem dX6_greatest_18 : decode cX6_greatest 18 = .ok (.iconst 1, 1) := by decide +kernel
theorem dX6_greatest_19 : decode cX6_greatest 19 = .ok (.invokevirtual 137, 3) := by decide +kernel
theorem dX6_greatest_22 : decode cX6_greatest 22 = .ok (.invokevirtual 48, 3) := by decide +kernel
theorem dX6_greatest_25 : decode cX6_greatest 25 = .ok (.ireturn, 1) := by decide +kernel
theorem dX6_sum_0 : decode cX6_sum 0 = .ok (.aload_n 0, 1) := by decide +kernel
theorem dX6_sum_1 : decode cX6_sum 1 = .ok (.iload_n 1, 1) := by decide +kernel
theorem dX6_sum_2 : decode cX6_sum 2 = .ok (.invokevirtual 51, 3) := by decide +kernel
theorem dX6_sum_5 : decode cX6_sum 5 = .ok (.astore_n 3, 1) := by decide +kernel
theorem dX6_sum_6 : decode cX6_sum 6 = .ok (.aload_n 3, 1) := by decide +kernel
theorem dX6_sum_7 : decode cX6_sum 7 = .ok (.ifnonnull 9, 3) := by decide +kernel
theorem dX6_sum_10 : decode cX6_sum 10 = .ok (.aload_n 0, 1) := by decide +kernel
theorem dX6_sum_11 : decode cX6_sum 11 = .ok (.iconst 1, 1) := by decide +kernel
theorem dX6_sum_12 : decode cX6_sum 12 = .ok (.invokevirtual 76, 3) := by decide +kernel
theorem dX6_sum_15 : decode cX6_sum 15 = .ok (.lreturn, 1) := by decide +kernel
theorem dX6_sum_16 : decode cX6_sum 16 = .ok (.iload_n 2, 1) := by decide +kernel
theorem dX6_sum_17 : decode cX6_sum 17 = .ok (.tableswitch 75 0 2 #[27, 43, 59], 27) := by decide +kernel
theorem dX6_sum_44 : decode cX6_sum 44 = .ok (.aload_n 0, 1) := by decide +kernel
theorem dX6_sum_45 : decode cX6_sum 45 = .ok (.aload_n 3, 1) := by decide +kernel
theorem dX6_sum_46 : decode cX6_sum 46 = .ok (.getfield 59, 3) := by decide +kernel
theorem dX6_sum_49 : decode cX6_sum 49 = .ok (.aload_n 3, 1) := by decide +kernel
theorem dX6_sum_50 : decode cX6_sum 50 = .ok (.getfield 80, 3) := by decide +kernel
theorem dX6_sum_53 : decode cX6_sum 53 = .ok (.invokestatic 141, 3) := by decide +kernel
theorem dX6_sum_56 : decode cX6_sum 56 = .ok (.invokevirtual 84, 3) := by decide +kernel
theorem dX6_sum_59 : decode cX6_sum 59 = .ok (.lreturn, 1) := by decide +kernel
theorem dX6_sum_60 : decode cX6_sum 60 = .ok (.aload_n 0, 1) := by decide +kernel
theorem dX6_sum_61 : decode cX6_sum 61 = .ok (.aload_n 3, 1) := by decide +kernel
theorem dX6_sum_62 : decode cX6_sum 62 = .ok (.getfield 59, 3) := by decide +kernel
theorem dX6_sum_65 : decode cX6_sum 65 = .ok (.aload_n 3, 1) := by decide +kernel
theorem dX6_sum_66 : decode cX6_sum 66 = .ok (.getfield 80, 3) := by decide +kernel
theorem dX6_sum_69 : decode cX6_sum 69 = .ok (.invokestatic 147, 3) := by decide +kernel
theorem dX6_sum_72 : decode cX6_sum 72 = .ok (.invokevirtual 84, 3) := by decide +kernel
theorem dX6_sum_75 : decode cX6_sum 75 = .ok (.lreturn, 1) := by decide +kernel
theorem dX6_sum_76 : decode cX6_sum 76 = .ok (.aload_n 0, 1) := by decide +kernel
theorem dX6_sum_77 : decode cX6_sum 77 = .ok (.aload_n 3, 1) := by decide +kernel
theorem dX6_sum_78 : decode cX6_sum 78 = .ok (.getfield 59, 3) := by decide +kernel
theorem dX6_sum_81 : decode cX6_sum 81 = .ok (.aload_n 3, 1) := by decide +kernel
theorem dX6_sum_82 : decode cX6_sum 82 = .ok (.getfield 80, 3) := by decide +kernel
theorem dX6_sum_85 : decode cX6_sum 85 = .ok (.invokestatic 150, 3) := by decide +kernel
theorem dX6_sum_88 : decode cX6_sum 88 = .ok (.invokevirtual 84, 3) := by decide +kernel
theorem dX6_sum_91 : decode cX6_sum 91 = .ok (.lreturn, 1) := by decide +kernel
theorem dX6_sum_92 : decode cX6_sum 92 = .ok (.aload_n 0, 1) := by decide +kernel
theorem dX6_sum_93 : decode cX6_sum 93 = .ok (.iconst 2, 1) := by decide +kernel
theorem dX6_sum_94 : decode cX6_sum 94 = .ok (.invokevirtual 76, 3) := by decide +kernel
theorem dX6_sum_97 : decode cX6_sum 97 = .ok (.lreturn, 1) := by decide +kernel
theorem dX6_find_0 : decode cX6_find 0 = .ok (.aload_n 0, 1) := by decide +kernel
theorem dX6_find_1 : decode cX6_find 1 = .ok (.iload_n 1, 1) := by decide +kernel
theorem dX6_find_2 : decode cX6_find 2 = .ok (.invokevirtual 51, 3) := by decide +kernel
theorem dX6_find_5 : decode cX6_find 5 = .ok (.astore 4, 2) := by decide +kernel
theorem dX6_find_7 : decode cX6_find 7 = .ok (.aload 4, 2) := by decide +kernel
theorem dX6_find_9 : decode cX6_find 9 = .ok (.ifnonnull 9, 3) := by decide +kernel
theorem dX6_find_12 : decode cX6_find 12 = .ok (.aload_n 0, 1) := by decide +kernel
theorem dX6_find_13 : decode cX6_find 13 = .ok (.iconst 1, 1) := by decide +kernel
theorem dX6_find_14 : decode cX6_find 14 = .ok (.invokevirtual 32, 3) := by decide +kernel
theorem dX6_find_17 : decode cX6_find 17 = .ok (.ireturn, 1) := by decide +kernel
theorem dX6_find_18 : decode cX6_find 18 = .ok (.aload 4, 2) := by decide +kernel
theorem dX6_find_20 : decode cX6_find 20 = .ok (.invokevirtual 153, 3) := by decide +kernel
theorem dX6_find_23 : decode cX6_find 23 = .ok (.ifCond .ne 9, 3) := by decide +kernel
theorem dX6_find_26 : decode cX6_find 26 = .ok (.aload_n 0, 1) := by decide +kernel
theorem dX6_find_27 : decode cX6_find 27 = .ok (.iconst 4, 1) := by decide +kernel
theorem dX6_find_28 : decode cX6_find 28 = .ok (.invokevirtual 32, 3) := by decide +kernel
theorem dX6_find_31 : decode cX6_find 31 = .ok (.ireturn, 1) := by decide +kernel
theorem dX6_find_32 : decode cX6_find 32 = .ok (.aload_n 0, 1) := by decide +kernel
theorem dX6_find_33 : decode cX6_find 33 = .ok (.aload 4, 2) := by decide +kernel
theorem dX6_find_35 : decode cX6_find 35 = .ok (.aload 4, 2) := by decide +kernel
theorem dX6_find_37 : decode cX6_find 37 = .ok (.getfield 59, 3) := by decide +kernel
theorem dX6_find_40 : decode cX6_find 40 = .ok (.lload_n 2, 1) := by decide +kernel
theorem dX6_find_41 : decode cX6_find 41 = .ok (.invokevirtual 62, 3) := by decide +kernel
theorem dX6_find_44 : decode cX6_find 44 = .ok (.invokevirtual 157, 3) := by decide +kernel
theorem dX6_find_47 : decode cX6_find 47 = .ok (.invokevirtual 48, 3) := by decide +kernel
theorem dX6_find_50 : decode cX6_find 50 = .ok (.ireturn, 1) := by decide +kernel
theorem dX6_interval_0 : decode cX6_interval 0 = .ok (.aload_n 0, 1) := by decide +kernel
theorem dX6_interval_1 : decode cX6_interval 1 = .ok (.iload_n 1, 1) := by decide +kernel
theorem dX6_interval_2 : decode cX6_interval 2 = .ok (.invokevirtual 51, 3) := by decide +kernel
theorem dX6_interval_5 : decode cX6_interval 5 = .ok (.astore 5, 2) := by decide +kernel
theorem dX6_interval_7 : decode cX6_interval 7 = .ok (.aload 5, 2) := by decide +kernel
theorem dX6_interval_9 : decode cX6_interval 9 = .ok (.ifnonnull 9, 3) := by decide +kernel
theorem dX6_interval_12 : decode cX6_interval 12 = .ok (.aload_n 0, 1) := by decide +kernel
theorem dX6_interval_13 : decode cX6_interval 13 = .ok (.iconst 1, 1) := by decide +kernel
theorem dX6_interval_14 : decode cX6_interval 14 = .ok (.invokevirtual 32, 3) := by decide +kernel
theorem dX6_interval_17 : decode cX6_interval 17 = .ok (.ireturn, 1) := by decide +kernel
theorem dX6_interval_18 : decode cX6_interval 18 = .ok (.aload 5, 2) := by decide +kernel
theorem dX6_interval_20 : decode cX6_interval 20 = .ok (.iload_n 2, 1) := by decide +kernel
theorem dX6_interval_21 : decode cX6_interval 21 = .ok (.invokevirtual 161, 3) := by decide +kernel
theorem dX6_interval_24 : decode cX6_interval 24 = .ok (.ifCond .eq 23, 3) := by decide +kernel
theorem dX6_interval_27 : decode cX6_interval 27 = .ok (.aload 5, 2) := by decide +kernel
theorem dX6_interval_29 : decode cX6_interval 29 = .ok (.iload_n 3, 1) := by decide +kernel
theorem dX6_interval_30 : decode cX6_interval 30 = .ok (.invokevirtual 161, 3) := by decide +kernel
theorem dX6_interval_33 : decode cX6_interval 33 = .ok (.ifCond .eq 14, 3) := by decide +kernel
theorem dX6_interval_36 : decode cX6_interval 36 = .ok (.iload 4, 2) := by decide +kernel
theorem dX6_interval_38 : decode cX6_interval 38 = .ok (.ifCond .lt 9, 3) := by decide +kernel
theorem dX6_interval_41 : decode cX6_interval 41 = .ok (.iload 4, 2) := by decide +kernel
theorem dX6_interval_43 : decode cX6_interval 43 = .ok (.iconst 5, 1) := by decide +kernel
theorem dX6_interval_44 : decode cX6_interval 44 = .ok (.if_icmp .le 9, 3) := by decide +kernel
theorem dX6_interval_47 : decode cX6_interval 47 = .ok (.aload_n 0, 1) := by decide +kernel
theorem dX6_interval_48 : decode cX6_interval 48 = .ok (.iconst 2, 1) := by decide +kernel
theorem dX6_interval_49 : decode cX6_interval 49 = .ok (.invokevirtual 32, 3) := by decide +kernel
theorem dX6_interval_52 : decode cX6_interval 52 = .ok (.ireturn, 1) := by decide +kernel
theorem dX6_interval_53 : decode cX6_interval 53 = .ok (.aload 5, 2) := by decide +kernel
theorem dX6_interval_55 : decode cX6_interval 55 = .ok (.iload_n 2, 1) := by decide +kernel
theorem dX6_interval_56 : decode cX6_interval 56 = .ok (.invokevirtual 166, 3) := by decide +kernel
theorem dX6_interval_59 : decode cX6_interval 59 = .ok (.astore 6, 2) := by decide +kernel
theorem dX6_interval_61 : decode cX6_interval 61 = .ok (.aload 5, 2) := by decide +kernel
theorem dX6_interval_63 : decode cX6_interval 63 = .ok (.iload_n 3, 1) := by decide +kernel
theorem dX6_interval_64 : decode cX6_interval 64 = .ok (.invokevirtual 166, 3) := by decide +kernel
theorem dX6_interval_67 : decode cX6_interval 67 = .ok (.astore 7, 2) := by decide +kernel
theorem dX6_interval_69 : decode cX6_interval 69 = .ok (.aload 6, 2) := by decide +kernel
theorem dX6_interval_71 : decode cX6_interval 71 = .ok (.invokevirtual 170, 3) := by decide +kernel
theorem dX6_interval_74 : decode cX6_interval 74 = .ok (.ifCond .eq 25, 3) := by decide +kernel
theorem dX6_interval_77 : decode cX6_interval 77 = .ok (.aload 7, 2) := by decide +kernel
theorem dX6_interval_79 : decode cX6_interval 79 = .ok (.invokevirtual 170, 3) := by decide +kernel
theorem dX6_interval_82 : decode cX6_interval 82 = .ok (.ifCond .eq 17, 3) := by decide +kernel
theorem dX6_interval_85 : decode cX6_interval 85 = .ok (.iload 4, 2) := by decide +kernel
theorem dX6_interval_87 : decode cX6_interval 87 = .ok (.iconst 3, 1) := by decide +kernel
theorem dX6_interval_88 : decode cX6_interval 88 = .ok (.if_icmp .ne 28, 3) := by decide +kernel
theorem dX6_interval_91 : decode cX6_interval 91 = .ok (.aload 7, 2) := by decide +kernel
theorem dX6_interval_93 : decode cX6_interval 93 = .ok (.invokevirtual 173, 3) := by decide +kernel
theorem dX6_interval_96 : decode cX6_interval 96 = .ok (.ifCond .eq 20, 3) := by decide +kernel
theorem dX6_interval_99 : decode cX6_interval 99 = .ok (.aload 5, 2) := by decide +kernel
theorem dX6_interval_101 : decode cX6_interval 101 = .ok (.iload_n 2, 1) := by decide +kernel
theorem dX6_interval_102 : decode cX6_interval 102 = .ok (.aload 6, 2) := by decide +kernel
theorem dX6_interval_104 : decode cX6_interval 104 = .ok (.invokevirtual 176, 3) := by decide +kernel
theorem dX6_interval_107 : decode cX6_interval 107 = .ok (.invokevirtual 180, 3) := by decide +kernel
theorem dX6_interval_110 : decode cX6_interval 110 = .ok (.aload_n 0, 1) := by decide +kernel
theorem dX6_interval_111 : decode cX6_interval 111 = .ok (.iconst 1, 1) := by decide +kernel
theorem dX6_interval_112 : decode cX6_interval 112 = .ok (.invokevirtual 48, 3) := by decide +kernel
theorem dX6_interval_115 : decode cX6_interval 115 = .ok (.ireturn, 1) := by decide +kernel
theorem dX6_interval_116 : decode cX6_interval 116 = .ok (.aload 6, 2) := by decide +kernel
theorem dX6_interval_118 : decode cX6_interval 118 = .ok (.iload 4, 2) := by decide +kernel
theorem dX6_interval_120 : decode cX6_interval 120 = .ok (.aload 7, 2) := by decide +kernel
theorem dX6_interval_122 : decode cX6_interval 122 = .ok (.invokevirtual 184, 3) := by decide +kernel
theorem dX6_interval_125 : decode cX6_interval 125 = .ok (.astore 8, 2) := by decide +kernel
theorem dX6_interval_127 : decode cX6_interval 127 = .ok (.iload 4, 2) := by decide +kernel
theorem dX6_interval_129 : decode cX6_interval 129 = .ok (.iconst 5, 1) := by decide +kernel
theorem dX6_interval_130 : decode cX6_interval 130 = .ok (.if_icmp .ne 28, 3) := by decide +kernel
theorem dX6_interval_133 : decode cX6_interval 133 = .ok (.aload 8, 2) := by decide +kernel
theorem dX6_interval_135 : decode cX6_interval 135 = .ok (.invokevirtual 170, 3) := by decide +kernel
theorem dX6_interval_138 : decode cX6_interval 138 = .ok (.ifCond .ne 20, 3) := by decide +kernel
theorem dX6_interval_141 : decode cX6_interval 141 = .ok (.aload 5, 2) := by decide +kernel
theorem dX6_interval_143 : decode cX6_interval 143 = .ok (.iload_n 2, 1) := by decide +kernel
theorem dX6_interval_144 : decode cX6_interval 144 = .ok (.aload 6, 2) := by decide +kernel
theorem dX6_interval_146 : decode cX6_interval 146 = .ok (.invokevirtual 187, 3) := by decide +kernel
theorem dX6_interval_149 : decode cX6_interval 149 = .ok (.invokevirtual 180, 3) := by decide +kernel
theorem dX6_interval_152 : decode cX6_interval 152 = .ok (.aload_n 0, 1) := by decide +kernel
theorem dX6_interval_153 : decode cX6_interval 153 = .ok (.iconst 2, 1) := by decide +kernel
theorem dX6_interval_154 : decode cX6_interval 154 = .ok (.invokevirtual 48, 3) := by decide +kernel
theorem dX6_interval_157 : decode cX6_interval 157 = .ok (.ireturn, 1) := by decide +kernel
theorem dX6_interval_158 : decode cX6_interval 158 = .ok (.aload 5, 2) := by decide +kernel
theorem dX6_interval_160 : decode cX6_interval 160 = .ok (.iload_n 2, 1) := by decide +kernel
theorem dX6_interval_161 : decode cX6_interval 161 = .ok (.aload 8, 2) := by decide +kernel
theorem dX6_interval_163 : decode cX6_interval 163 = .ok (.invokevirtual 180, 3) := by decide +kernel
theorem dX6_interval_166 : decode cX6_interval 166 = .ok (.aload_n 0, 1) := by decide +kernel
theorem dX6_interval_167 : decode cX6_interval 167 = .ok (.iconst 0, 1) := by decide +kernel
theorem dX6_interval_168 : decode cX6_interval 168 = .ok (.invokevirtual 48, 3) := by decide +kernel
theorem dX6_interval_171 : decode cX6_interval 171 = .ok (.ireturn, 1) := by decide +kernel
theorem dX6_move_0 : decode cX6_move 0 = .ok (.aload_n 0, 1) := by decide +kernel
theorem dX6_move_1 : decode cX6_move 1 = .ok (.iload_n 1, 1) := by decide +kernel
theorem dX6_move_2 : decode cX6_move 2 = .ok (.invokevirtual 51, 3) := by decide +kernel
theorem dX6_move_5 : decode cX6_move 5 = .ok (.astore 6, 2) := by decide +kernel
theorem dX6_move_7 : decode cX6_move 7 = .ok (.aload 6, 2) := by decide +kernel
theorem dX6_move_9 : decode cX6_move 9 = .ok (.ifnonnull 9, 3) := by decide +kernel
theorem dX6_move_12 : decode cX6_move 12 = .ok (.aload_n 0, 1) := by decide +kernel
theorem dX6_move_13 : decode cX6_move 13 = .ok (.iconst 1, 1) := by decide +kernel
theorem dX6_move_14 : decode cX6_move 14 = .ok (.invokevirtual 32, 3) := by decide +kernel
theorem dX6_move_17 : decode cX6_move 17 = .ok (.ireturn, 1) := by decide +kernel
theorem dX6_move_18 : decode cX6_move 18 = .ok (.aload_n 0, 1) := by decide +kernel
theorem dX6_move_19 : decode cX6_move 19 = .ok (.iload_n 3, 1) := by decide +kernel
theorem dX6_move_20 : decode cX6_move 20 = .ok (.invokevirtual 51, 3) := by decide +kernel
theorem dX6_move_23 : decode cX6_move 23 = .ok (.astore 7, 2) := by decide +kernel
theorem dX6_move_25 : decode cX6_move 25 = .ok (.aload 7, 2) := by decide +kernel
theorem dX6_move_27 : decode cX6_move 27 = .ok (.ifnull 22, 3) := by decide +kernel
theorem dX6_move_30 : decode cX6_move 30 = .ok (.aload 6, 2) := by decide +kernel
theorem dX6_move_32 : decode cX6_move 32 = .ok (.iload_n 2, 1) := by decide +kernel
theorem dX6_move_33 : decode cX6_move 33 = .ok (.invokevirtual 55, 3) := by decide +kernel
theorem dX6_move_36 : decode cX6_move 36 = .ok (.ifCond .eq 13, 3) := by decide +kernel
theorem dX6_move_39 : decode cX6_move 39 = .ok (.aload 7, 2) := by decide +kernel
theorem dX6_move_41 : decode cX6_move 41 = .ok (.iload 4, 2) := by decide +kernel
theorem dX6_move_43 : decode cX6_move 43 = .ok (.invokevirtual 55, 3) := by decide +kernel
theorem dX6_move_46 : decode cX6_move 46 = .ok (.ifCond .ne 9, 3) := by decide +kernel
theorem dX6_move_49 : decode cX6_move 49 = .ok (.aload_n 0, 1) := by decide +kernel
theorem dX6_move_50 : decode cX6_move 50 = .ok (.iconst 2, 1) := by decide +kernel
theorem dX6_move_51 : decode cX6_move 51 = .ok (.invokevirtual 32, 3) := by decide +kernel
theorem dX6_move_54 : decode cX6_move 54 = .ok (.ireturn, 1) := by decide +kernel
theorem dX6_move_55 : decode cX6_move 55 = .ok (.aload 6, 2) := by decide +kernel
theorem dX6_move_57 : decode cX6_move 57 = .ok (.getfield 59, 3) := by decide +kernel
theorem dX6_move_60 : decode cX6_move 60 = .ok (.aload 7, 2) := by decide +kernel
theorem dX6_move_62 : decode cX6_move 62 = .ok (.getfield 59, 3) := by decide +kernel
theorem dX6_move_65 : decode cX6_move 65 = .ok (.if_acmp .eq 14, 3) := by decide +kernel
theorem dX6_move_68 : decode cX6_move 68 = .ok (.iload 5, 2) := by decide +kernel
theorem dX6_move_70 : decode cX6_move 70 = .ok (.ifCond .ne 9, 3) := by decide +kernel
theorem dX6_move_73 : decode cX6_move 73 = .ok (.aload_n 0, 1) := by decide +kernel
theorem dX6_move_74 : decode cX6_move 74 = .ok (.iconst 3, 1) := by decide +kernel
theorem dX6_move_75 : decode cX6_move 75 = .ok (.invokevirtual 32, 3) := by decide +kernel
theorem dX6_move_78 : decode cX6_move 78 = .ok (.ireturn, 1) := by decide +kernel
theorem dX6_move_79 : decode cX6_move 79 = .ok (.aload_n 0, 1) := by decide +kernel
theorem dX6_move_80 : decode cX6_move 80 = .ok (.aload 7, 2) := by decide +kernel
theorem dX6_move_82 : decode cX6_move 82 = .ok (.iload 4, 2) := by decide +kernel
theorem dX6_move_84 : decode cX6_move 84 = .ok (.aload 6, 2) := by decide +kernel
theorem dX6_move_86 : decode cX6_move 86 = .ok (.getfield 59, 3) := by decide +kernel
theorem dX6_move_89 : decode cX6_move 89 = .ok (.aload 6, 2) := by decide +kernel
theorem dX6_move_91 : decode cX6_move 91 = .ok (.getfield 80, 3) := by decide +kernel
theorem dX6_move_94 : decode cX6_move 94 = .ok (.iload_n 2, 1) := by decide +kernel
theorem dX6_move_95 : decode cX6_move 95 = .ok (.laload, 1) := by decide +kernel
theorem dX6_move_96 : decode cX6_move 96 = .ok (.aload 7, 2) := by decide +kernel
theorem dX6_move_98 : decode cX6_move 98 = .ok (.getfield 59, 3) := by decide +kernel
theorem dX6_move_101 : decode cX6_move 101 = .ok (.invokestatic 190, 3) := by decide +kernel
theorem dX6_move_104 : decode cX6_move 104 = .ok (.invokevirtual 66, 3) := by decide +kernel
theorem dX6_move_107 : decode cX6_move 107 = .ok (.invokevirtual 48, 3) := by decide +kernel
theorem dX6_move_110 : decode cX6_move 110 = .ok (.ireturn, 1) := by decide +kernel
theorem dX6_status_0 : decode cX6_status 0 = .ok (.aload_n 0, 1) := by decide +kernel
theorem dX6_status_1 : decode cX6_status 1 = .ok (.getfield 29, 3) := by decide +kernel
theorem dX6_status_4 : decode cX6_status 4 = .ok (.ireturn, 1) := by decide +kernel
theorem dX6_rowAt_0 : decode cX6_rowAt 0 = .ok (.iload_n 1, 1) := by decide +kernel
theorem dX6_rowAt_1 : decode cX6_rowAt 1 = .ok (.ifCond .lt 20, 3) := by decide +kernel
theorem dX6_rowAt_4 : decode cX6_rowAt 4 = .ok (.iload_n 1, 1) := by decide +kernel
theorem dX6_rowAt_5 : decode cX6_rowAt 5 = .ok (.aload_n 0, 1) := by decide +kernel
theorem dX6_rowAt_6 : decode cX6_rowAt 6 = .ok (.getfield 22, 3) := by decide +kernel
theorem dX6_rowAt_9 : decode cX6_rowAt 9 = .ok (.if_icmp .ge 12, 3) := by decide +kernel
theorem dX6_rowAt_12 : decode cX6_rowAt 12 = .ok (.aload_n 0, 1) := by decide +kernel
theorem dX6_rowAt_13 : decode cX6_rowAt 13 = .ok (.getfield 11, 3) := by decide +kernel
theorem dX6_rowAt_16 : decode cX6_rowAt 16 = .ok (.iload_n 1, 1) := by decide +kernel
theorem dX6_rowAt_17 : decode cX6_rowAt 17 = .ok (.aaload, 1) := by decide +kernel
theorem dX6_rowAt_18 : decode cX6_rowAt 18 = .ok (.goto 4, 3) := by decide +kernel
theorem dX6_rowAt_21 : decode cX6_rowAt 21 = .ok (.aconst_null, 1) := by decide +kernel
theorem dX6_rowAt_22 : decode cX6_rowAt 22 = .ok (.areturn, 1) := by decide +kernel
theorem dX6_refuse_0 : decode cX6_refuse 0 = .ok (.aload_n 0, 1) := by decide +kernel
theorem dX6_refuse_1 : decode cX6_refuse 1 = .ok (.iload_n 1, 1) := by decide +kernel
theorem dX6_refuse_2 : decode cX6_refuse 2 = .ok (.putfield 29, 3) := by decide +kernel
theorem dX6_refuse_5 : decode cX6_refuse 5 = .ok (.bipush (-9), 2) := by decide +kernel
theorem dX6_refuse_7 : decode cX6_refuse 7 = .ok (.ireturn, 1) := by decide +kernel
theorem dX6_refuseLong_0 : decode cX6_refuseLong 0 = .ok (.aload_n 0, 1) := by decide +kernel
theorem dX6_refuseLong_1 : decode cX6_refuseLong 1 = .ok (.iload_n 1, 1) := by decide +kernel
theorem dX6_refuseLong_2 : decode cX6_refuseLong 2 = .ok (.putfield 29, 3) := by decide +kernel
theorem dX6_refuseLong_5 : decode cX6_refuseLong 5 = .ok (.lconst 0, 1) := by decide +kernel
theorem dX6_refuseLong_6 : decode cX6_refuseLong 6 = .ok (.lreturn, 1) := by decide +kernel
theorem dX6_answer_0 : decode cX6_answer 0 = .ok (.aload_n 0, 1) := by decide +kernel
theorem dX6_answer_1 : decode cX6_answer 1 = .ok (.iconst 0, 1) := by decide +kernel
theorem dX6_answer_2 : decode cX6_answer 2 = .ok (.putfield 29, 3) := by decide +kernel
theorem dX6_answer_5 : decode cX6_answer 5 = .ok (.iload_n 1, 1) := by decide +kernel
theorem dX6_answer_6 : decode cX6_answer 6 = .ok (.ireturn, 1) := by decide +kernel
theorem dX6_answerLong_0 : decode cX6_answerLong 0 = .ok (.aload_n 0, 1) := by decide +kernel
theorem dX6_answerLong_1 : decode cX6_answerLong 1 = .ok (.iconst 0, 1) := by decide +kernel
theorem dX6_answerLong_2 : decode cX6_answerLong 2 = .ok (.putfield 29, 3) := by decide +kernel
theorem dX6_answerLong_5 : decode cX6_answerLong 5 = .ok (.lload_n 1, 1) := by decide +kernel
theorem dX6_answerLong_6 : decode cX6_answerLong 6 = .ok (.lreturn, 1) := by decide +kernel
theorem dX7_init_0 : decode cX7_init 0 = .ok (.aload_n 0, 1) := by decide +kernel
theorem dX7_init_1 : decode cX7_init 1 = .ok (.invokespecial 1, 3) := by decide +kernel
theorem dX7_init_4 : decode cX7_init 4 = .ok (.aload_n 0, 1) := by decide +kernel
theorem dX7_init_5 : decode cX7_init 5 = .ok (.iconst 2, 1) := by decide +kernel
theorem dX7_init_6 : decode cX7_init 6 = .ok (.newarray .int, 2) := by decide +kernel
theorem dX7_init_8 : decode cX7_init 8 = .ok (.dup, 1) := by decide +kernel
theorem dX7_init_9 : decode cX7_init 9 = .ok (.iconst 0, 1) := by decide +kernel
theorem dX7_init_10 : decode cX7_init 10 = .ok (.bipush 52, 2) := by decide +kernel
theorem dX7_init_12 : decode cX7_init 12 = .ok (.iastore, 1) := by decide +kernel
theorem dX7_init_13 : decode cX7_init 13 = .ok (.dup, 1) := by decide +kernel
theorem dX7_init_14 : decode cX7_init 14 = .ok (.iconst 1, 1) := by decide +kernel
theorem dX7_init_15 : decode cX7_init 15 = .ok (.bipush 23, 2) := by decide +kernel
theorem dX7_init_17 : decode cX7_init 17 = .ok (.iastore, 1) := by decide +kernel
theorem dX7_init_18 : decode cX7_init 18 = .ok (.putfield 7, 3) := by decide +kernel
theorem dX7_init_21 : decode cX7_init 21 = .ok (.aload_n 0, 1) := by decide +kernel
theorem dX7_init_22 : decode cX7_init 22 = .ok (.iconst 2, 1) := by decide +kernel
theorem dX7_init_23 : decode cX7_init 23 = .ok (.newarray .int, 2) := by decide +kernel
theorem dX7_init_25 : decode cX7_init 25 = .ok (.dup, 1) := by decide +kernel
theorem dX7_init_26 : decode cX7_init 26 = .ok (.iconst 0, 1) := by decide +kernel
theorem dX7_init_27 : decode cX7_init 27 = .ok (.sipush (-1074), 3) := by decide +kernel
theorem dX7_init_30 : decode cX7_init 30 = .ok (.iastore, 1) := by decide +kernel
theorem dX7_init_31 : decode cX7_init 31 = .ok (.dup, 1) := by decide +kernel
theorem dX7_init_32 : decode cX7_init 32 = .ok (.iconst 1, 1) := by decide +kernel
theorem dX7_init_33 : decode cX7_init 33 = .ok (.sipush (-149), 3) := by decide +kernel
theorem dX7_init_36 : decode cX7_init 36 = .ok (.iastore, 1) := by decide +kernel
theorem dX7_init_37 : decode cX7_init 37 = .ok (.putfield 13, 3) := by decide +kernel
theorem dX7_init_40 : decode cX7_init 40 = .ok (.aload_n 0, 1) := by decide +kernel
theorem dX7_init_41 : decode cX7_init 41 = .ok (.iconst 2, 1) := by decide +kernel
theorem dX7_init_42 : decode cX7_init 42 = .ok (.newarray .int, 2) := by decide +kernel
theorem dX7_init_44 : decode cX7_init 44 = .ok (.dup, 1) := by decide +kernel
theorem dX7_init_45 : decode cX7_init 45 = .ok (.iconst 0, 1) := by decide +kernel
theorem dX7_init_46 : decode cX7_init 46 = .ok (.sipush 2047, 3) := by decide +kernel
theorem dX7_init_49 : decode cX7_init 49 = .ok (.iastore, 1) := by decide +kernel
theorem dX7_init_50 : decode cX7_init 50 = .ok (.dup, 1) := by decide +kernel
theorem dX7_init_51 : decode cX7_init 51 = .ok (.iconst 1, 1) := by decide +kernel
theorem dX7_init_52 : decode cX7_init 52 = .ok (.sipush 255, 3) := by decide +kernel
theorem dX7_init_55 : decode cX7_init 55 = .ok (.iastore, 1) := by decide +kernel
theorem dX7_init_56 : decode cX7_init 56 = .ok (.putfield 16, 3) := by decide +kernel
theorem dX7_init_59 : decode cX7_init 59 = .ok (.aload_n 0, 1) := by decide +kernel
theorem dX7_init_60 : decode cX7_init 60 = .ok (.iconst 2, 1) := by decide +kernel
theorem dX7_init_61 : decode cX7_init 61 = .ok (.newarray .long, 2) := by decide +kernel
theorem dX7_init_63 : decode cX7_init 63 = .ok (.dup, 1) := by decide +kernel
theorem dX7_init_64 : decode cX7_init 64 = .ok (.iconst 0, 1) := by decide +kernel
theorem dX7_init_65 : decode cX7_init 65 = .ok (.ldc2_w 19, 3) := by decide +kernel
theorem dX7_init_68 : decode cX7_init 68 = .ok (.lastore, 1) := by decide +kernel
theorem dX7_init_69 : decode cX7_init 69 = .ok (.dup, 1) := by decide +kernel
theorem dX7_init_70 : decode cX7_init 70 = .ok (.iconst 1, 1) := by decide +kernel
theorem dX7_init_71 : decode cX7_init 71 = .ok (.ldc2_w 21, 3) := by decide +kernel
theorem dX7_init_74 : decode cX7_init 74 = .ok (.lastore, 1) := by decide +kernel
theorem dX7_init_75 : decode cX7_init 75 = .ok (.putfield 23, 3) := by decide +kernel
theorem dX7_init_78 : decode cX7_init 78 = .ok (.aload_n 0, 1) := by decide +kernel
theorem dX7_init_79 : decode cX7_init 79 = .ok (.iconst 2, 1) := by decide +kernel
theorem dX7_init_80 : decode cX7_init 80 = .ok (.newarray .long, 2) := by decide +kernel
theorem dX7_init_82 : decode cX7_init 82 = .ok (.dup, 1) := by decide +kernel
theorem dX7_init_83 : decode cX7_init 83 = .ok (.iconst 0, 1) := by decide +kernel
theorem dX7_init_84 : decode cX7_init 84 = .ok (.ldc2_w 27, 3) := by decide +kernel
theorem dX7_init_87 : decode cX7_init 87 = .ok (.lastore, 1) := by decide +kernel
theorem dX7_init_88 : decode cX7_init 88 = .ok (.dup, 1) := by decide +kernel
theorem dX7_init_89 : decode cX7_init 89 = .ok (.iconst 1, 1) := by decide +kernel
theorem dX7_init_90 : decode cX7_init 90 = .ok (.ldc2_w 29, 3) := by decide +kernel
theorem dX7_init_93 : decode cX7_init 93 = .ok (.lastore, 1) := by decide +kernel
theorem dX7_init_94 : decode cX7_init 94 = .ok (.putfield 31, 3) := by decide +kernel
theorem dX7_init_97 : decode cX7_init 97 = .ok (.aload_n 0, 1) := by decide +kernel
theorem dX7_init_98 : decode cX7_init 98 = .ok (.iconst 2, 1) := by decide +kernel
theorem dX7_init_99 : decode cX7_init 99 = .ok (.newarray .long, 2) := by decide +kernel
theorem dX7_init_101 : decode cX7_init 101 = .ok (.dup, 1) := by decide +kernel
theorem dX7_init_102 : decode cX7_init 102 = .ok (.iconst 0, 1) := by decide +kernel
theorem dX7_init_103 : decode cX7_init 103 = .ok (.ldc2_w 34, 3) := by decide +kernel
theorem dX7_init_106 : decode cX7_init 106 = .ok (.lastore, 1) := by decide +kernel
theorem dX7_init_107 : decode cX7_init 107 = .ok (.dup, 1) := by decide +kernel
theorem dX7_init_108 : decode cX7_init 108 = .ok (.iconst 1, 1) := by decide +kernel
theorem dX7_init_109 : decode cX7_init 109 = .ok (.ldc2_w 36, 3) := by decide +kernel
theorem dX7_init_112 : decode cX7_init 112 = .ok (.lastore, 1) := by decide +kernel
theorem dX7_init_113 : decode cX7_init 113 = .ok (.putfield 38, 3) := by decide +kernel
theorem dX7_init_116 : decode cX7_init 116 = .ok (.aload_n 0, 1) := by decide +kernel
theorem dX7_init_117 : decode cX7_init 117 = .ok (.iconst 2, 1) := by decide +kernel
theorem dX7_init_118 : decode cX7_init 118 = .ok (.newarray .long, 2) := by decide +kernel
theorem dX7_init_120 : decode cX7_init 120 = .ok (.dup, 1) := by decide +kernel
theorem dX7_init_121 : decode cX7_init 121 = .ok (.iconst 0, 1) := by decide +kernel
theorem dX7_init_122 : decode cX7_init 122 = .ok (.ldc2_w 41, 3) := by decide +kernel
theorem dX7_init_125 : decode cX7_init 125 = .ok (.lastore, 1) := by decide +kernel
theorem dX7_init_126 : decode cX7_init 126 = .ok (.dup, 1) := by decide +kernel
theorem dX7_init_127 : decode cX7_init 127 = .ok (.iconst 1, 1) := by decide +kernel
theorem dX7_init_128 : decode cX7_init 128 = .ok (.ldc2_w 43, 3) := by decide +kernel
theorem dX7_init_131 : decode cX7_init 131 = .ok (.lastore, 1) := by decide +kernel
theorem dX7_init_132 : decode cX7_init 132 = .ok (.putfield 45, 3) := by decide +kernel
theorem dX7_init_135 : decode cX7_init 135 = .ok (.aload_n 0, 1) := by decide +kernel
theorem dX7_init_136 : decode cX7_init 136 = .ok (.bipush 65, 2) := by decide +kernel
theorem dX7_init_138 : decode cX7_init 138 = .ok (.newarray .int, 2) := by decide +kernel
theorem dX7_init_140 : decode cX7_init 140 = .ok (.putfield 48, 3) := by decide +kernel
theorem dX7_init_143 : decode cX7_init 143 = .ok (.aload_n 0, 1) := by decide +kernel
theorem dX7_init_144 : decode cX7_init 144 = .ok (.bipush 64, 2) := by decide +kernel
theorem dX7_init_146 : decode cX7_init 146 = .ok (.newarray .int, 2) := by decide +kernel
theorem dX7_init_148 : decode cX7_init 148 = .ok (.putfield 51, 3) := by decide +kernel
theorem dX7_init_151 : decode cX7_init 151 = .ok (.aload_n 0, 1) := by decide +kernel
theorem dX7_init_152 : decode cX7_init 152 = .ok (.sipush 4000, 3) := by decide +kernel
theorem dX7_init_155 : decode cX7_init 155 = .ok (.newarray .long, 2) := by decide +kernel
theorem dX7_init_157 : decode cX7_init 157 = .ok (.putfield 54, 3) := by decide +kernel
theorem dX7_init_160 : decode cX7_init 160 = .ok (.aload_n 0, 1) := by decide +kernel
theorem dX7_init_161 : decode cX7_init 161 = .ok (.sipush 500, 3) := by decide +kernel
theorem dX7_init_164 : decode cX7_init 164 = .ok (.newarray .long, 2) := by decide +kernel
theorem dX7_init_166 : decode cX7_init 166 = .ok (.putfield 57, 3) := by decide +kernel
theorem dX7_init_169 : decode cX7_init 169 = .ok (.aload_n 0, 1) := by decide +kernel
theorem dX7_init_170 : decode cX7_init 170 = .ok (.sipush 500, 3) := by decide +kernel
theorem dX7_init_173 : decode cX7_init 173 = .ok (.newarray .long, 2) := by decide +kernel
theorem dX7_init_175 : decode cX7_init 175 = .ok (.putfield 60, 3) := by decide +kernel
theorem dX7_init_178 : decode cX7_init 178 = .ok (.aload_n 0, 1) := by decide +kernel
theorem dX7_init_179 : decode cX7_init 179 = .ok (.bipush 12, 2) := by decide +kernel
theorem dX7_init_181 : decode cX7_init 181 = .ok (.newarray .int, 2) := by decide +kernel
theorem dX7_init_183 : decode cX7_init 183 = .ok (.putfield 63, 3) := by decide +kernel
theorem dX7_init_186 : decode cX7_init 186 = .ok (.aload_n 0, 1) := by decide +kernel
theorem dX7_init_187 : decode cX7_init 187 = .ok (.bipush 12, 2) := by decide +kernel
theorem dX7_init_189 : decode cX7_init 189 = .ok (.newarray .int, 2) := by decide +kernel
theorem dX7_init_191 : decode cX7_init 191 = .ok (.putfield 66, 3) := by decide +kernel
theorem dX7_init_194 : decode cX7_init 194 = .ok (.aload_n 0, 1) := by decide +kernel
theorem dX7_init_195 : decode cX7_init 195 = .ok (.bipush 12, 2) := by decide +kernel
theorem dX7_init_197 : decode cX7_init 197 = .ok (.newarray .int, 2) := by decide +kernel
theorem dX7_init_199 : decode cX7_init 199 = .ok (.putfield 69, 3) := by decide +kernel
theorem dX7_init_202 : decode cX7_init 202 = .ok (.aload_n 0, 1) := by decide +kernel
theorem dX7_init_203 : decode cX7_init 203 = .ok (.bipush 12, 2) := by decide +kernel
theorem dX7_init_205 : decode cX7_init 205 = .ok (.newarray .long, 2) := by decide +kernel
theorem dX7_init_207 : decode cX7_init 207 = .ok (.putfield 72, 3) := by decide +kernel
theorem dX7_init_210 : decode cX7_init 210 = .ok (.return_, 1) := by decide +kernel
theorem dX7_no_0 : decode cX7_no 0 = .ok (.aload_n 0, 1) := by decide +kernel
theorem dX7_no_1 : decode cX7_no 1 = .ok (.iload_n 1, 1) := by decide +kernel
theorem dX7_no_2 : decode cX7_no 2 = .ok (.putfield 75, 3) := by decide +kernel
theorem dX7_no_5 : decode cX7_no 5 = .ok (.bipush (-9), 2) := by decide +kernel
theorem dX7_no_7 : decode cX7_no 7 = .ok (.ireturn, 1) := by decide +kernel
theorem dX7_size_0 : decode cX7_size 0 = .ok (.aload_n 0, 1) := by decide +kernel
theorem dX7_size_1 : decode cX7_size 1 = .ok (.getfield 48, 3) := by decide +kernel
theorem dX7_size_4 : decode cX7_size 4 = .ok (.iload_n 1, 1) := by decide +kernel
theorem dX7_size_5 : decode cX7_size 5 = .ok (.iconst 1, 1) := by decide +kernel
theorem dX7_size_6 : decode cX7_size 6 = .ok (.iadd, 1) := by decide +kernel
theorem dX7_size_7 : decode cX7_size 7 = .ok (.iaload, 1) := by decide +kernel
theorem dX7_size_8 : decode cX7_size 8 = .ok (.aload_n 0, 1) := by decide +kernel
theorem dX7_size_9 : decode cX7_size 9 = .ok (.getfield 48, 3) := by decide +kernel
theorem dX7_size_12 : decode cX7_size 12 = .ok (.iload_n 1, 1) := by decide +kernel
theorem dX7_size_13 : decode cX7_size 13 = .ok (.iaload, 1) := by decide +kernel
theorem dX7_size_14 : decode cX7_size 14 = .ok (.isub, 1) := by decide +kernel
theorem dX7_size_15 : decode cX7_size 15 = .ok (.ireturn, 1) := by decide +kernel
theorem dX7_bad_0 : decode cX7_bad 0 = .ok (.iload_n 1, 1) := by decide +kernel
theorem dX7_bad_1 : decode cX7_bad 1 = .ok (.ifCond .lt 11, 3) := by decide +kernel
theorem dX7_bad_4 : decode cX7_bad 4 = .ok (.iload_n 1, 1) := by decide +kernel
theorem dX7_bad_5 : decode cX7_bad 5 = .ok (.aload_n 0, 1) := by decide +kernel
theorem dX7_bad_6 : decode cX7_bad 6 = .ok (.getfield 79, 3) := by decide +kernel
theorem dX7_bad_9 : decode cX7_bad 9 = .ok (.if_icmp .lt 5, 3) := by decide +kernel
theorem dX7_bad_12 : decode cX7_bad 12 = .ok (.iconst 1, 1) := by decide +kernel
theorem dX7_bad_13 : decode cX7_bad 13 = .ok (.ireturn, 1) := by decide +kernel
theorem dX7_bad_14 : decode cX7_bad 14 = .ok (.iload_n 2, 1) := by decide +kernel
theorem dX7_bad_15 : decode cX7_bad 15 = .ok (.ifCond .lt 12, 3) := by decide +kernel
theorem dX7_bad_18 : decode cX7_bad 18 = .ok (.iload_n 2, 1) := by decide +kernel
theorem dX7_bad_19 : decode cX7_bad 19 = .ok (.aload_n 0, 1) := by decide +kernel
theorem dX7_bad_20 : decode cX7_bad 20 = .ok (.iload_n 1, 1) := by decide +kernel
theorem dX7_bad_21 : decode cX7_bad 21 = .ok (.invokevirtual 82, 3) := by decide +kernel
theorem dX7_bad_24 : decode cX7_bad 24 = .ok (.if_icmp .lt 7, 3) := by decide +kernel
theorem dX7_bad_27 : decode cX7_bad 27 = .ok (.iconst 2, 1) := by decide +kernel
theorem dX7_bad_28 : decode cX7_bad 28 = .ok (.goto 4, 3) := by decide +kernel
theorem dX7_bad_31 : decode cX7_bad 31 = .ok (.iconst 0, 1) := by decide +kernel
theorem dX7_bad_32 : decode cX7_bad 32 = .ok (.ireturn, 1) := by decide +kernel
theorem dX7_outside_0 : decode cX7_outside 0 = .ok (.iload_n 2, 1) := by decide +kernel
theorem dX7_outside_1 : decode cX7_outside 1 = .ok (.ifCond .lt 12, 3) := by decide +kernel
theorem dX7_outside_4 : decode cX7_outside 4 = .ok (.iload_n 2, 1) := by decide +kernel
theorem dX7_outside_5 : decode cX7_outside 5 = .ok (.aload_n 0, 1) := by decide +kernel
theorem dX7_outside_6 : decode cX7_outside 6 = .ok (.iload_n 1, 1) := by decide +kernel
theorem dX7_outside_7 : decode cX7_outside 7 = .ok (.invokevirtual 82, 3) := by decide +kernel
theorem dX7_outside_10 : decode cX7_outside 10 = .ok (.if_icmp .lt 7, 3) := by decide +kernel
theorem dX7_outside_13 : decode cX7_outside 13 = .ok (.iconst 1, 1) := by decide +kernel
theorem dX7_outside_14 : decode cX7_outside 14 = .ok (.goto 4, 3) := by decide +kernel
theorem dX7_outside_17 : decode cX7_outside 17 = .ok (.iconst 0, 1) := by decide +kernel
theorem dX7_outside_18 : decode cX7_outside 18 = .ok (.ireturn, 1) := by decide +kernel
theorem dX7_at_0 : decode cX7_at 0 = .ok (.aload_n 0, 1) := by decide +kernel
theorem dX7_at_1 : decode cX7_at 1 = .ok (.getfield 54, 3) := by decide +kernel
theorem dX7_at_4 : decode cX7_at 4 = .ok (.aload_n 0, 1) := by decide +kernel
theorem dX7_at_5 : decode cX7_at 5 = .ok (.getfield 48, 3) := by decide +kernel
theorem dX7_at_8 : decode cX7_at 8 = .ok (.iload_n 1, 1) := by decide +kernel
theorem dX7_at_9 : decode cX7_at 9 = .ok (.iaload, 1) := by decide +kernel
theorem dX7_at_10 : decode cX7_at 10 = .ok (.iload_n 2, 1) := by decide +kernel
theorem dX7_at_11 : decode cX7_at 11 = .ok (.iadd, 1) := by decide +kernel
theorem dX7_at_12 : decode cX7_at 12 = .ok (.laload, 1) := by decide +kernel
theorem dX7_at_13 : decode cX7_at 13 = .ok (.lreturn, 1) := by decide +kernel
theorem dX7_keep_0 : decode cX7_keep 0 = .ok (.aload_n 0, 1) := by decide +kernel
theorem dX7_keep_1 : decode cX7_keep 1 = .ok (.getfield 54, 3) := by decide +kernel
theorem dX7_keep_4 : decode cX7_keep 4 = .ok (.aload_n 0, 1) := by decide +kernel
theorem dX7_keep_5 : decode cX7_keep 5 = .ok (.getfield 48, 3) := by decide +kernel
theorem dX7_keep_8 : decode cX7_keep 8 = .ok (.iload_n 1, 1) := by decide +kernel
theorem dX7_keep_9 : decode cX7_keep 9 = .ok (.iaload, 1) := by decide +kernel
theorem dX7_keep_10 : decode cX7_keep 10 = .ok (.iload_n 2, 1) := by decide +kernel
theorem dX7_keep_11 : decode cX7_keep 11 = .ok (.iadd, 1) := by decide +kernel
theorem dX7_keep_12 : decode cX7_keep 12 = .ok (.lload_n 3, 1) := by decide +kernel
theorem dX7_keep_13 : decode cX7_keep 13 = .ok (.lastore, 1) := by decide +kernel
theorem dX7_keep_14 : decode cX7_keep 14 = .ok (.aload_n 0, 1) := by decide +kernel
theorem dX7_keep_15 : decode cX7_keep 15 = .ok (.aload_n 0, 1) := by decide +kernel
theorem dX7_keep_16 : decode cX7_keep 16 = .ok (.getfield 51, 3) := by decide +kernel
theorem dX7_keep_19 : decode cX7_keep 19 = .ok (.iload_n 1, 1) := by decide +kernel
theorem dX7_keep_20 : decode cX7_keep 20 = .ok (.iaload, 1) := by decide +kernel
theorem dX7_keep_21 : decode cX7_keep 21 = .ok (.lload_n 3, 1) := by decide +kernel
theorem dX7_keep_22 : decode cX7_keep 22 = .ok (.invokevirtual 86, 3) := by decide +kernel
theorem dX7_keep_25 : decode cX7_keep 25 = .ok (.ireturn, 1) := by decide +kernel
theorem dX7_unsigned_0 : decode cX7_unsigned 0 = .ok (.lload_n 2, 1) := by decide +kernel
theorem dX7_unsigned_1 : decode cX7_unsigned 1 = .ok (.aload_n 0, 1) := by decide +kernel
theorem dX7_unsigned_2 : decode cX7_unsigned 2 = .ok (.getfield 23, 3) := by decide +kernel
theorem dX7_unsigned_5 : decode cX7_unsigned 5 = .ok (.iload_n 1, 1) := by decide +kernel
theorem dX7_unsigned_6 : decode cX7_unsigned 6 = .ok (.laload, 1) := by decide +kernel
theorem dX7_unsigned_7 : decode cX7_unsigned 7 = .ok (.ldc2_w 90, 3) := by decide +kernel
theorem dX7_unsigned_10 : decode cX7_unsigned 10 = .ok (.lxor, 1) := by decide +kernel
theorem dX7_unsigned_11 : decode cX7_unsigned 11 = .ok (.land, 1) := by decide +kernel
theorem dX7_unsigned_12 : decode cX7_unsigned 12 = .ok (.lreturn, 1) := by decide +kernel
theorem dX7_minus_0 : decode cX7_minus 0 = .ok (.lload_n 2, 1) := by decide +kernel
theorem dX7_minus_1 : decode cX7_minus 1 = .ok (.aload_n 0, 1) := by decide +kernel
theorem dX7_minus_2 : decode cX7_minus 2 = .ok (.getfield 23, 3) := by decide +kernel
theorem dX7_minus_5 : decode cX7_minus 5 = .ok (.iload_n 1, 1) := by decide +kernel
theorem dX7_minus_6 : decode cX7_minus 6 = .ok (.laload, 1) := by decide +kernel
theorem dX7_minus_7 : decode cX7_minus 7 = .ok (.land, 1) := by decide +kernel
theorem dX7_minus_8 : decode cX7_minus 8 = .ok (.lconst 0, 1) := by decide +kernel
theorem dX7_minus_9 : decode cX7_minus 9 = .ok (.lcmp, 1) := by decide +kernel
theorem dX7_minus_10 : decode cX7_minus 10 = .ok (.ifCond .eq 7, 3) := by decide +kernel
theorem dX7_minus_13 : decode cX7_minus 13 = .ok (.iconst 1, 1) := by decide +kernel
theorem dX7_minus_14 : decode cX7_minus 14 = .ok (.goto 4, 3) := by decide +kernel
theorem dX7_minus_17 : decode cX7_minus 17 = .ok (.iconst 0, 1) := by decide +kernel
theorem dX7_minus_18 : decode cX7_minus 18 = .ok (.ireturn, 1) := by decide +kernel
theorem dX7_clean_0 : decode cX7_clean 0 = .ok (.iload_n 1, 1) := by decide +kernel
theorem dX7_clean_1 : decode cX7_clean 1 = .ok (.iconst 1, 1) := by decide +kernel
theorem dX7_clean_2 : decode cX7_clean 2 = .ok (.if_icmp .ne 11, 3) := by decide +kernel
theorem dX7_clean_5 : decode cX7_clean 5 = .ok (.lload_n 2, 1) := by decide +kernel
theorem dX7_clean_6 : decode cX7_clean 6 = .ok (.ldc2_w 92, 3) := by decide +kernel
theorem dX7_clean_9 : decode cX7_clean 9 = .ok (.land, 1) := by decide +kernel
theorem dX7_clean_10 : decode cX7_clean 10 = .ok (.goto 4, 3) := by decide +kernel
theorem dX7_clean_13 : decode cX7_clean 13 = .ok (.lload_n 2, 1) := by decide +kernel
theorem dX7_clean_14 : decode cX7_clean 14 = .ok (.lstore 4, 2) := by decide +kernel
theorem dX7_clean_16 : decode cX7_clean 16 = .ok (.aload_n 0, 1) := by decide +kernel
theorem dX7_clean_17 : decode cX7_clean 17 = .ok (.iload_n 1, 1) := by decide +kernel
theorem dX7_clean_18 : decode cX7_clean 18 = .ok (.lload 4, 2) := by decide +kernel
theorem dX7_clean_20 : decode cX7_clean 20 = .ok (.invokevirtual 94, 3) := by decide +kernel
theorem dX7_clean_23 : decode cX7_clean 23 = .ok (.aload_n 0, 1) := by decide +kernel
theorem dX7_clean_24 : decode cX7_clean 24 = .ok (.getfield 31, 3) := by decide +kernel
theorem dX7_clean_27 : decode cX7_clean 27 = .ok (.iload_n 1, 1) := by decide +kernel
theorem dX7_clean_28 : decode cX7_clean 28 = .ok (.laload, 1) := by decide +kernel
theorem dX7_clean_29 : decode cX7_clean 29 = .ok (.lcmp, 1) := by decide +kernel
theorem dX7_clean_30 : decode cX7_clean 30 = .ok (.ifCond .le 12, 3) := by decide +kernel
theorem dX7_clean_33 : decode cX7_clean 33 = .ok (.aload_n 0, 1) := by decide +kernel
theorem dX7_clean_34 : decode cX7_clean 34 = .ok (.getfield 38, 3) := by decide +kernel
theorem dX7_clean_37 : decode cX7_clean 37 = .ok (.iload_n 1, 1) := by decide +kernel
theorem dX7_clean_38 : decode cX7_clean 38 = .ok (.laload, 1) := by decide +kernel
theorem dX7_clean_39 : decode cX7_clean 39 = .ok (.goto 5, 3) := by decide +kernel
theorem dX7_clean_42 : decode cX7_clean 42 = .ok (.lload 4, 2) := by decide +kernel
theorem dX7_clean_44 : decode cX7_clean 44 = .ok (.lreturn, 1) := by decide +kernel
theorem dX7_none_0 : decode cX7_none 0 = .ok (.lload_n 2, 1) := by decide +kernel
theorem dX7_none_1 : decode cX7_none 1 = .ok (.aload_n 0, 1) := by decide +kernel
theorem dX7_none_2 : decode cX7_none 2 = .ok (.getfield 38, 3) := by decide +kernel
theorem dX7_none_5 : decode cX7_none 5 = .ok (.iload_n 1, 1) := by decide +kernel
theorem dX7_none_6 : decode cX7_none 6 = .ok (.laload, 1) := by decide +kernel
theorem dX7_none_7 : decode cX7_none 7 = .ok (.lcmp, 1) := by decide +kernel
theorem dX7_none_8 : decode cX7_none 8 = .ok (.ifCond .ne 7, 3) := by decide +kernel
theorem dX7_none_11 : decode cX7_none 11 = .ok (.iconst 1, 1) := by decide +kernel
theorem dX7_none_12 : decode cX7_none 12 = .ok (.goto 4, 3) := by decide +kernel
theorem dX7_none_15 : decode cX7_none 15 = .ok (.iconst 0, 1) := by decide +kernel
theorem dX7_none_16 : decode cX7_none 16 = .ok (.ireturn, 1) := by decide +kernel
theorem dX7_infinite_0 : decode cX7_infinite 0 = .ok (.aload_n 0, 1) := by decide +kernel
theorem dX7_infinite_1 : decode cX7_infinite 1 = .ok (.iload_n 1, 1) := by decide +kernel
theorem dX7_infinite_2 : decode cX7_infinite 2 = .ok (.lload_n 2, 1) := by decide +kernel
theorem dX7_infinite_3 : decode cX7_infinite 3 = .ok (.invokevirtual 94, 3) := by decide +kernel
theorem dX7_infinite_6 : decode cX7_infinite 6 = .ok (.aload_n 0, 1) := by decide +kernel
theorem dX7_infinite_7 : decode cX7_infinite 7 = .ok (.getfield 31, 3) := by decide +kernel
theorem dX7_infinite_10 : decode cX7_infinite 10 = .ok (.iload_n 1, 1) := by decide +kernel
theorem dX7_infinite_11 : decode cX7_infinite 11 = .ok (.laload, 1) := by decide +kernel
theorem dX7_infinite_12 : decode cX7_infinite 12 = .ok (.lcmp, 1) := by decide +kernel
theorem dX7_infinite_13 : decode cX7_infinite 13 = .ok (.ifCond .ne 7, 3) := by decide +kernel
theorem dX7_infinite_16 : decode cX7_infinite 16 = .ok (.iconst 1, 1) := by decide +kernel
theorem dX7_infinite_17 : decode cX7_infinite 17 = .ok (.goto 4, 3) := by decide +kernel
theorem dX7_infinite_20 : decode cX7_infinite 20 = .ok (.iconst 0, 1) := by decide +kernel
theorem dX7_infinite_21 : decode cX7_infinite 21 = .ok (.ireturn, 1) := by decide +kernel
theorem dX7_zero_0 : decode cX7_zero 0 = .ok (.aload_n 0, 1) := by decide +kernel
theorem dX7_zero_1 : decode cX7_zero 1 = .ok (.iload_n 1, 1) := by decide +kernel
theorem dX7_zero_2 : decode cX7_zero 2 = .ok (.lload_n 2, 1) := by decide +kernel
theorem dX7_zero_3 : decode cX7_zero 3 = .ok (.invokevirtual 94, 3) := by decide +kernel
theorem dX7_zero_6 : decode cX7_zero 6 = .ok (.lconst 0, 1) := by decide +kernel
theorem dX7_zero_7 : decode cX7_zero 7 = .ok (.lcmp, 1) := by decide +kernel
theorem dX7_zero_8 : decode cX7_zero 8 = .ok (.ifCond .ne 7, 3) := by decide +kernel
theorem dX7_zero_11 : decode cX7_zero 11 = .ok (.iconst 1, 1) := by decide +kernel
theorem dX7_zero_12 : decode cX7_zero 12 = .ok (.goto 4, 3) := by decide +kernel
theorem dX7_zero_15 : decode cX7_zero 15 = .ok (.iconst 0, 1) := by decide +kernel
theorem dX7_zero_16 : decode cX7_zero 16 = .ok (.ireturn, 1) := by decide +kernel
theorem dX7_sortOf_0 : decode cX7_sortOf 0 = .ok (.aload_n 0, 1) := by decide +kernel
theorem dX7_sortOf_1 : decode cX7_sortOf 1 = .ok (.iload_n 1, 1) := by decide +kernel
theorem dX7_sortOf_2 : decode cX7_sortOf 2 = .ok (.lload_n 2, 1) := by decide +kernel
theorem dX7_sortOf_3 : decode cX7_sortOf 3 = .ok (.invokevirtual 98, 3) := by decide +kernel
theorem dX7_sortOf_6 : decode cX7_sortOf 6 = .ok (.ifCond .eq 5, 3) := by decide +kernel
theorem dX7_sortOf_9 : decode cX7_sortOf 9 = .ok (.iconst 3, 1) := by decide +kernel
theorem dX7_sortOf_10 : decode cX7_sortOf 10 = .ok (.ireturn, 1) := by decide +kernel
theorem dX7_sortOf_11 : decode cX7_sortOf 11 = .ok (.aload_n 0, 1) := by decide +kernel
theorem dX7_sortOf_12 : decode cX7_sortOf 12 = .ok (.iload_n 1, 1) := by decide +kernel
theorem dX7_sortOf_13 : decode cX7_sortOf 13 = .ok (.lload_n 2, 1) := by decide +kernel
theorem dX7_sortOf_14 : decode cX7_sortOf 14 = .ok (.invokevirtual 102, 3) := by decide +kernel
theorem dX7_sortOf_17 : decode cX7_sortOf 17 = .ok (.ifCond .eq 7, 3) := by decide +kernel
theorem dX7_sortOf_20 : decode cX7_sortOf 20 = .ok (.iconst 0, 1) := by decide +kernel
theorem dX7_sortOf_21 : decode cX7_sortOf 21 = .ok (.goto 17, 3) := by decide +kernel
theorem dX7_sortOf_24 : decode cX7_sortOf 24 = .ok (.aload_n 0, 1) := by decide +kernel
theorem dX7_sortOf_25 : decode cX7_sortOf 25 = .ok (.iload_n 1, 1) := by decide +kernel
theorem dX7_sortOf_26 : decode cX7_sortOf 26 = .ok (.lload_n 2, 1) := by decide +kernel
theorem dX7_sortOf_27 : decode cX7_sortOf 27 = .ok (.invokevirtual 105, 3) := by decide +kernel
theorem dX7_sortOf_30 : decode cX7_sortOf 30 = .ok (.ifCond .eq 7, 3) := by decide +kernel
theorem dX7_sortOf_33 : decode cX7_sortOf 33 = .ok (.iconst 2, 1) := by decide +kernel
theorem dX7_sortOf_34 : decode cX7_sortOf 34 = .ok (.goto 4, 3) := by decide +kernel
theorem dX7_sortOf_37 : decode cX7_sortOf 37 = .ok (.iconst 1, 1) := by decide +kernel
theorem dX7_sortOf_38 : decode cX7_sortOf 38 = .ok (.aload_n 0, 1) := by decide +kernel
theorem dX7_sortOf_39 : decode cX7_sortOf 39 = .ok (.iload_n 1, 1) := by decide +kernel
theorem dX7_sortOf_40 : decode cX7_sortOf 40 = .ok (.lload_n 2, 1) := by decide +kernel
theorem dX7_sortOf_41 : decode cX7_sortOf 41 = .ok (.invokevirtual 108, 3) := by decide +kernel
theorem dX7_sortOf_44 : decode cX7_sortOf 44 = .ok (.ifCond .eq 7, 3) := by decide +kernel
theorem dX7_sortOf_47 : decode cX7_sortOf 47 = .ok (.iconst 4, 1) := by decide +kernel
theorem dX7_sortOf_48 : decode cX7_sortOf 48 = .ok (.goto 4, 3) := by decide +kernel
theorem dX7_sortOf_51 : decode cX7_sortOf 51 = .ok (.iconst 0, 1) := by decide +kernel
theorem dX7_sortOf_52 : decode cX7_sortOf 52 = .ok (.iadd, 1) := by decide +kernel
theorem dX7_sortOf_53 : decode cX7_sortOf 53 = .ok (.ireturn, 1) := by decide +kernel
theorem dX7_rank_0 : decode cX7_rank 0 = .ok (.aload_n 0, 1) := by decide +kernel
theorem dX7_rank_1 : decode cX7_rank 1 = .ok (.iload_n 1, 1) := by decide +kernel
theorem dX7_rank_2 : decode cX7_rank 2 = .ok (.lload_n 2, 1) := by decide +kernel
theorem dX7_rank_3 : decode cX7_rank 3 = .ok (.invokevirtual 108, 3) := by decide +kernel
theorem dX7_rank_6 : decode cX7_rank 6 = .ok (.ifCond .eq 13, 3) := by decide +kernel
theorem dX7_rank_9 : decode cX7_rank 9 = .ok (.aload_n 0, 1) := by decide +kernel
theorem dX7_rank_10 : decode cX7_rank 10 = .ok (.iload_n 1, 1) := by decide +kernel
theorem dX7_rank_11 : decode cX7_rank 11 = .ok (.lload_n 2, 1) := by decide +kernel
theorem dX7_rank_12 : decode cX7_rank 12 = .ok (.invokevirtual 94, 3) := by decide +kernel
theorem dX7_rank_15 : decode cX7_rank 15 = .ok (.lneg, 1) := by decide +kernel
theorem dX7_rank_16 : decode cX7_rank 16 = .ok (.goto 9, 3) := by decide +kernel
theorem dX7_rank_19 : decode cX7_rank 19 = .ok (.aload_n 0, 1) := by decide +kernel
theorem dX7_rank_20 : decode cX7_rank 20 = .ok (.iload_n 1, 1) := by decide +kernel
theorem dX7_rank_21 : decode cX7_rank 21 = .ok (.lload_n 2, 1) := by decide +kernel
theorem dX7_rank_22 : decode cX7_rank 22 = .ok (.invokevirtual 94, 3) := by decide +kernel
theorem dX7_rank_25 : decode cX7_rank 25 = .ok (.lreturn, 1) := by decide +kernel
theorem dX7_signed_0 : decode cX7_signed 0 = .ok (.iload 4, 2) := by decide +kernel
theorem dX7_signed_2 : decode cX7_signed 2 = .ok (.ifCond .eq 14, 3) := by decide +kernel
theorem dX7_signed_5 : decode cX7_signed 5 = .ok (.lload_n 2, 1) := by decide +kernel
theorem dX7_signed_6 : decode cX7_signed 6 = .ok (.aload_n 0, 1) := by decide +kernel
theorem dX7_signed_7 : decode cX7_signed 7 = .ok (.getfield 23, 3) := by decide +kernel
theorem dX7_signed_10 : decode cX7_signed 10 = .ok (.iload_n 1, 1) := by decide +kernel
theorem dX7_signed_11 : decode cX7_signed 11 = .ok (.laload, 1) := by decide +kernel
theorem dX7_signed_12 : decode cX7_signed 12 = .ok (.lor, 1) := by decide +kernel
theorem dX7_signed_13 : decode cX7_signed 13 = .ok (.goto 15, 3) := by decide +kernel
theorem dX7_signed_16 : decode cX7_signed 16 = .ok (.lload_n 2, 1) := by decide +kernel
theorem dX7_signed_17 : decode cX7_signed 17 = .ok (.aload_n 0, 1) := by decide +kernel
theorem dX7_signed_18 : decode cX7_signed 18 = .ok (.getfield 23, 3) := by decide +kernel
theorem dX7_signed_21 : decode cX7_signed 21 = .ok (.iload_n 1, 1) := by decide +kernel
theorem dX7_signed_22 : decode cX7_signed 22 = .ok (.laload, 1) := by decide +kernel
theorem dX7_signed_23 : decode cX7_signed 23 = .ok (.ldc2_w 90, 3) := by decide +kernel
theorem dX7_signed_26 : decode cX7_signed 26 = .ok (.lxor, 1) := by decide +kernel
theorem dX7_signed_27 : decode cX7_signed 27 = .ok (.land, 1) := by decide +kernel
theorem dX7_signed_28 : decode cX7_signed 28 = .ok (.lreturn, 1) := by decide +kernel
theorem dX7_turned_0 : decode cX7_turned 0 = .ok (.aload_n 0, 1) := by decide +kernel
theorem dX7_turned_1 : decode cX7_turned 1 = .ok (.iload_n 1, 1) := by decide +kernel
theorem dX7_turned_2 : decode cX7_turned 2 = .ok (.lload_n 2, 1) := by decide +kernel
theorem dX7_turned_3 : decode cX7_turned 3 = .ok (.invokevirtual 98, 3) := by decide +kernel
theorem dX7_turned_6 : decode cX7_turned 6 = .ok (.ifCond .eq 7, 3) := by decide +kernel
theorem dX7_turned_9 : decode cX7_turned 9 = .ok (.lload_n 2, 1) := by decide +kernel
theorem dX7_turned_10 : decode cX7_turned 10 = .ok (.goto 11, 3) := by decide +kernel
theorem dX7_turned_13 : decode cX7_turned 13 = .ok (.lload_n 2, 1) := by decide +kernel
theorem dX7_turned_14 : decode cX7_turned 14 = .ok (.aload_n 0, 1) := by decide +kernel
theorem dX7_turned_15 : decode cX7_turned 15 = .ok (.getfield 23, 3) := by decide +kernel
theorem dX7_turned_18 : decode cX7_turned 18 = .ok (.iload_n 1, 1) := by decide +kernel
theorem dX7_turned_19 : decode cX7_turned 19 = .ok (.laload, 1) := by decide +kernel
theorem dX7_turned_20 : decode cX7_turned 20 = .ok (.lxor, 1) := by decide +kernel
theorem dX7_turned_21 : decode cX7_turned 21 = .ok (.lreturn, 1) := by decide +kernel
theorem dX7_power_0 : decode cX7_power 0 = .ok (.aload_n 0, 1) := by decide +kernel
theorem dX7_power_1 : decode cX7_power 1 = .ok (.iload_n 1, 1) := by decide +kernel
theorem dX7_power_2 : decode cX7_power 2 = .ok (.lload_n 2, 1) := by decide +kernel
theorem dX7_power_3 : decode cX7_power 3 = .ok (.invokevirtual 94, 3) := by decide +kernel
theorem dX7_power_6 : decode cX7_power 6 = .ok (.lstore 4, 2) := by decide +kernel
theorem dX7_power_8 : decode cX7_power 8 = .ok (.lload 4, 2) := by decide +kernel
theorem dX7_power_10 : decode cX7_power 10 = .ok (.aload_n 0, 1) := by decide +kernel
theorem dX7_power_11 : decode cX7_power 11 = .ok (.getfield 7, 3) := by decide +kernel
theorem dX7_power_14 : decode cX7_power 14 = .ok (.iload_n 1, 1) := by decide +kernel
theorem dX7_power_15 : decode cX7_power 15 = .ok (.iaload, 1) := by decide +kernel
theorem dX7_power_16 : decode cX7_power 16 = .ok (.lshr, 1) := by decide +kernel
theorem dX7_power_17 : decode cX7_power 17 = .ok (.l2i, 1) := by decide +kernel
theorem dX7_power_18 : decode cX7_power 18 = .ok (.istore 6, 2) := by decide +kernel
theorem dX7_power_20 : decode cX7_power 20 = .ok (.iload 6, 2) := by decide +kernel
theorem dX7_power_22 : decode cX7_power 22 = .ok (.ifCond .le 15, 3) := by decide +kernel
theorem dX7_power_25 : decode cX7_power 25 = .ok (.aload_n 0, 1) := by decide +kernel
theorem dX7_power_26 : decode cX7_power 26 = .ok (.getfield 13, 3) := by decide +kernel
theorem dX7_power_29 : decode cX7_power 29 = .ok (.iload_n 1, 1) := by decide +kernel
theorem dX7_power_30 : decode cX7_power 30 = .ok (.iaload, 1) := by decide +kernel
theorem dX7_power_31 : decode cX7_power 31 = .ok (.iload 6, 2) := by decide +kernel
theorem dX7_power_33 : decode cX7_power 33 = .ok (.iadd, 1) := by decide +kernel
theorem dX7_power_34 : decode cX7_power 34 = .ok (.iconst 1, 1) := by decide +kernel
theorem dX7_power_35 : decode cX7_power 35 = .ok (.isub, 1) := by decide +kernel
theorem dX7_power_36 : decode cX7_power 36 = .ok (.ireturn, 1) := by decide +kernel
theorem dX7_power_37 : decode cX7_power 37 = .ok (.aload_n 0, 1) := by decide +kernel
theorem dX7_power_38 : decode cX7_power 38 = .ok (.getfield 13, 3) := by decide +kernel
theorem dX7_power_41 : decode cX7_power 41 = .ok (.iload_n 1, 1) := by decide +kernel
theorem dX7_power_42 : decode cX7_power 42 = .ok (.iaload, 1) := by decide +kernel
theorem dX7_power_43 : decode cX7_power 43 = .ok (.istore 7, 2) := by decide +kernel
theorem dX7_power_45 : decode cX7_power 45 = .ok (.lload 4, 2) := by decide +kernel
theorem dX7_power_47 : decode cX7_power 47 = .ok (.lstore 8, 2) := by decide +kernel
theorem dX7_power_49 : decode cX7_power 49 = .ok (.lload 8, 2) := by decide +kernel
theorem dX7_power_51 : decode cX7_power 51 = .ok (.aload_n 0, 1) := by decide +kernel
theorem dX7_power_52 : decode cX7_power 52 = .ok (.getfield 7, 3) := by decide +kernel
theorem dX7_power_55 : decode cX7_power 55 = .ok (.iload_n 1, 1) := by decide +kernel
theorem dX7_power_56 : decode cX7_power 56 = .ok (.iaload, 1) := by decide +kernel
theorem dX7_power_57 : decode cX7_power 57 = .ok (.lshr, 1) := by decide +kernel
theorem dX7_power_58 : decode cX7_power 58 = .ok (.lconst 0, 1) := by decide +kernel
theorem dX7_power_59 : decode cX7_power 59 = .ok (.lcmp, 1) := by decide +kernel
theorem dX7_power_60 : decode cX7_power 60 = .ok (.ifCond .ne 15, 3) := by decide +kernel
theorem dX7_power_63 : decode cX7_power 63 = .ok (.iinc 7 (-1), 3) := by decide +kernel
theorem dX7_power_66 : decode cX7_power 66 = .ok (.lload 8, 2) := by decide +kernel
theorem dX7_power_68 : decode cX7_power 68 = .ok (.iconst 1, 1) := by decide +kernel
theorem dX7_power_69 : decode cX7_power 69 = .ok (.lshl, 1) := by decide +kernel
theorem dX7_power_70 : decode cX7_power 70 = .ok (.lstore 8, 2) := by decide +kernel
theorem dX7_power_72 : decode cX7_power 72 = .ok (.goto (-23), 3) := by decide +kernel
theorem dX7_power_75 : decode cX7_power 75 = .ok (.iload 7, 2) := by decide +kernel
theorem dX7_power_77 : decode cX7_power 77 = .ok (.ireturn, 1) := by decide +kernel
theorem dX7_mantissa_0 : decode cX7_mantissa 0 = .ok (.aload_n 0, 1) := by decide +kernel
theorem dX7_mantissa_1 : decode cX7_mantissa 1 = .ok (.iload_n 1, 1) := by decide +kernel
theorem dX7_mantissa_2 : decode cX7_mantissa 2 = .ok (.lload_n 2, 1) := by decide +kernel
theorem dX7_mantissa_3 : decode cX7_mantissa 3 = .ok (.invokevirtual 94, 3) := by decide +kernel
theorem dX7_mantissa_6 : decode cX7_mantissa 6 = .ok (.lstore 4, 2) := by decide +kernel
theorem dX7_mantissa_8 : decode cX7_mantissa 8 = .ok (.lconst 1, 1) := by decide +kernel
theorem dX7_mantissa_9 : decode cX7_mantissa 9 = .ok (.aload_n 0, 1) := by decide +kernel
theorem dX7_mantissa_10 : decode cX7_mantissa 10 = .ok (.getfield 7, 3) := by decide +kernel
theorem dX7_mantissa_13 : decode cX7_mantissa 13 = .ok (.iload_n 1, 1) := by decide +kernel
theorem dX7_mantissa_14 : decode cX7_mantissa 14 = .ok (.iaload, 1) := by decide +kernel
theorem dX7_mantissa_15 : decode cX7_mantissa 15 = .ok (.lshl, 1) := by decide +kernel
theorem dX7_mantissa_16 : decode cX7_mantissa 16 = .ok (.lstore 6, 2) := by decide +kernel
theorem dX7_mantissa_18 : decode cX7_mantissa 18 = .ok (.lload 4, 2) := by decide +kernel
theorem dX7_mantissa_20 : decode cX7_mantissa 20 = .ok (.lload 6, 2) := by decide +kernel
theorem dX7_mantissa_22 : decode cX7_mantissa 22 = .ok (.lcmp, 1) := by decide +kernel
theorem dX7_mantissa_23 : decode cX7_mantissa 23 = .ok (.ifCond .lt 14, 3) := by decide +kernel
theorem dX7_mantissa_26 : decode cX7_mantissa 26 = .ok (.lload 4, 2) := by decide +kernel
theorem dX7_mantissa_28 : decode cX7_mantissa 28 = .ok (.lload 6, 2) := by decide +kernel
theorem dX7_mantissa_30 : decode cX7_mantissa 30 = .ok (.lconst 1, 1) := by decide +kernel
theorem dX7_mantissa_31 : decode cX7_mantissa 31 = .ok (.lsub, 1) := by decide +kernel
theorem dX7_mantissa_32 : decode cX7_mantissa 32 = .ok (.land, 1) := by decide +kernel
theorem dX7_mantissa_33 : decode cX7_mantissa 33 = .ok (.lload 6, 2) := by decide +kernel
theorem dX7_mantissa_35 : decode cX7_mantissa 35 = .ok (.lor, 1) := by decide +kernel
theorem dX7_mantissa_36 : decode cX7_mantissa 36 = .ok (.lreturn, 1) := by decide +kernel
theorem dX7_mantissa_37 : decode cX7_mantissa 37 = .ok (.lload 4, 2) := by decide +kernel
theorem dX7_mantissa_39 : decode cX7_mantissa 39 = .ok (.lstore 8, 2) := by decide +kernel
theorem dX7_mantissa_41 : decode cX7_mantissa 41 = .ok (.lload 8, 2) := by decide +kernel
theorem dX7_mantissa_43 : decode cX7_mantissa 43 = .ok (.lload 6, 2) := by decide +kernel
theorem dX7_mantissa_45 : decode cX7_mantissa 45 = .ok (.lcmp, 1) := by decide +kernel
theorem dX7_mantissa_46 : decode cX7_mantissa 46 = .ok (.ifCond .ge 12, 3) := by decide +kernel
theorem dX7_mantissa_49 : decode cX7_mantissa 49 = .ok (.lload 8, 2) := by decide +kernel
theorem dX7_mantissa_51 : decode cX7_mantissa 51 = .ok (.iconst 1, 1) := by decide +kernel
theorem dX7_mantissa_52 : decode cX7_mantissa 52 = .ok (.lshl, 1) := by decide +kernel
theorem dX7_mantissa_53 : decode cX7_mantissa 53 = .ok (.lstore 8, 2) := by decide +kernel
theorem dX7_mantissa_55 : decode cX7_mantissa 55 = .ok (.goto (-14), 3) := by decide +kernel
theorem dX7_mantissa_58 : decode cX7_mantissa 58 = .ok (.lload 8, 2) := by decide +kernel
theorem dX7_mantissa_60 : decode cX7_mantissa 60 = .ok (.lreturn, 1) := by decide +kernel
theorem dX7_round_0 : decode cX7_round 0 = .ok (.iconst 0, 1) := by decide +kernel
theorem dX7_round_1 : decode cX7_round 1 = .ok (.istore 7, 2) := by decide +kernel
theorem dX7_round_3 : decode cX7_round 3 = .ok (.iload 7, 2) := by decide +kernel
theorem dX7_round_5 : decode cX7_round 5 = .ok (.bipush 63, 2) := by decide +kernel
theorem dX7_round_7 : decode cX7_round 7 = .ok (.if_icmp .ge 18, 3) := by decide +kernel
theorem dX7_round_10 : decode cX7_round 10 = .ok (.lload_n 3, 1) := by decide +kernel
theorem dX7_round_11 : decode cX7_round 11 = .ok (.iload 7, 2) := by decide +kernel
theorem dX7_round_13 : decode cX7_round 13 = .ok (.lshr, 1) := by decide +kernel
theorem dX7_round_14 : decode cX7_round 14 = .ok (.lconst 0, 1) := by decide +kernel
theorem dX7_round_15 : decode cX7_round 15 = .ok (.lcmp, 1) := by decide +kernel
theorem dX7_round_16 : decode cX7_round 16 = .ok (.ifCond .le 9, 3) := by decide +kernel
theorem dX7_round_19 : decode cX7_round 19 = .ok (.iinc 7 1, 3) := by decide +kernel
theorem dX7_round_22 : decode cX7_round 22 = .ok (.goto (-19), 3) := by decide +kernel
theorem dX7_round_25 : decode cX7_round 25 = .ok (.iload 5, 2) := by decide +kernel
theorem dX7_round_27 : decode cX7_round 27 = .ok (.iload 7, 2) := by decide +kernel
theorem dX7_round_29 : decode cX7_round 29 = .ok (.iadd, 1) := by decide +kernel
theorem dX7_round_30 : decode cX7_round 30 = .ok (.aload_n 0, 1) := by decide +kernel
theorem dX7_round_31 : decode cX7_round 31 = .ok (.getfield 7, 3) := by decide +kernel
theorem dX7_round_34 : decode cX7_round 34 = .ok (.iload_n 1, 1) := by decide +kernel
theorem dX7_round_35 : decode cX7_round 35 = .ok (.iaload, 1) := by decide +kernel
theorem dX7_round_36 : decode cX7_round 36 = .ok (.isub, 1) := by decide +kernel
theorem dX7_round_37 : decode cX7_round 37 = .ok (.iconst 1, 1) := by decide +kernel
theorem dX7_round_38 : decode cX7_round 38 = .ok (.isub, 1) := by decide +kernel
theorem dX7_round_39 : decode cX7_round 39 = .ok (.istore 8, 2) := by decide +kernel
theorem dX7_round_41 : decode cX7_round 41 = .ok (.iload 8, 2) := by decide +kernel
theorem dX7_round_43 : decode cX7_round 43 = .ok (.aload_n 0, 1) := by decide +kernel
theorem dX7_round_44 : decode cX7_round 44 = .ok (.getfield 13, 3) := by decide +kernel
theorem dX7_round_47 : decode cX7_round 47 = .ok (.iload_n 1, 1) := by decide +kernel
theorem dX7_round_48 : decode cX7_round 48 = .ok (.iaload, 1) := by decide +kernel
theorem dX7_round_49 : decode cX7_round 49 = .ok (.if_icmp .ge 11, 3) := by decide +kernel
theorem dX7_round_52 : decode cX7_round 52 = .ok (.aload_n 0, 1) := by decide +kernel
theorem dX7_round_53 : decode cX7_round 53 = .ok (.getfield 13, 3) := by decide +kernel
theorem dX7_round_56 : decode cX7_round 56 = .ok (.iload_n 1, 1) := by decide +kernel
theorem dX7_round_57 : decode cX7_round 57 = .ok (.iaload, 1) := by decide +kernel
theorem dX7_round_58 : decode cX7_round 58 = .ok (.istore 8, 2) := by decide +kernel
theorem dX7_round_60 : decode cX7_round 60 = .ok (.iload 8, 2) := by decide +kernel
theorem dX7_round_62 : decode cX7_round 62 = .ok (.aload_n 0, 1) := by decide +kernel
theorem dX7_round_63 : decode cX7_round 63 = .ok (.getfield 13, 3) := by decide +kernel
theorem dX7_round_66 : decode cX7_round 66 = .ok (.iload_n 1, 1) := by decide +kernel
theorem dX7_round_67 : decode cX7_round 67 = .ok (.iaload, 1) := by decide +kernel
theorem dX7_round_68 : decode cX7_round 68 = .ok (.isub, 1) := by decide +kernel
theorem dX7_round_69 : decode cX7_round 69 = .ok (.aload_n 0, 1) := by decide +kernel
theorem dX7_round_70 : decode cX7_round 70 = .ok (.getfield 16, 3) := by decide +kernel
theorem dX7_round_73 : decode cX7_round 73 = .ok (.iload_n 1, 1) := by decide +kernel
theorem dX7_round_74 : decode cX7_round 74 = .ok (.iaload, 1) := by decide +kernel
theorem dX7_round_75 : decode cX7_round 75 = .ok (.iconst 1, 1) := by decide +kernel
theorem dX7_round_76 : decode cX7_round 76 = .ok (.isub, 1) := by decide +kernel
theorem dX7_round_77 : decode cX7_round 77 = .ok (.if_icmp .lt 16, 3) := by decide +kernel
theorem dX7_round_80 : decode cX7_round 80 = .ok (.aload_n 0, 1) := by decide +kernel
theorem dX7_round_81 : decode cX7_round 81 = .ok (.iload_n 1, 1) := by decide +kernel
theorem dX7_round_82 : decode cX7_round 82 = .ok (.aload_n 0, 1) := by decide +kernel
theorem dX7_round_83 : decode cX7_round 83 = .ok (.getfield 31, 3) := by decide +kernel
theorem dX7_round_86 : decode cX7_round 86 = .ok (.iload_n 1, 1) := by decide +kernel
theorem dX7_round_87 : decode cX7_round 87 = .ok (.laload, 1) := by decide +kernel
theorem dX7_round_88 : decode cX7_round 88 = .ok (.iload_n 2, 1) := by decide +kernel
theorem dX7_round_89 : decode cX7_round 89 = .ok (.invokevirtual 111, 3) := by decide +kernel
theorem dX7_round_92 : decode cX7_round 92 = .ok (.lreturn, 1) := by decide +kernel
theorem dX7_round_93 : decode cX7_round 93 = .ok (.iload 8, 2) := by decide +kernel
theorem dX7_round_95 : decode cX7_round 95 = .ok (.iload 5, 2) := by decide +kernel
theorem dX7_round_97 : decode cX7_round 97 = .ok (.isub, 1) := by decide +kernel
theorem dX7_round_98 : decode cX7_round 98 = .ok (.istore 9, 2) := by decide +kernel
theorem dX7_round_100 : decode cX7_round 100 = .ok (.lconst 0, 1) := by decide +kernel
theorem dX7_round_101 : decode cX7_round 101 = .ok (.lstore 10, 2) := by decide +kernel
theorem dX7_round_103 : decode cX7_round 103 = .ok (.iload 9, 2) := by decide +kernel
theorem dX7_round_105 : decode cX7_round 105 = .ok (.ifCond .gt 13, 3) := by decide +kernel
theorem dX7_round_108 : decode cX7_round 108 = .ok (.lload_n 3, 1) := by decide +kernel
theorem dX7_round_109 : decode cX7_round 109 = .ok (.iload 9, 2) := by decide +kernel
theorem dX7_round_111 : decode cX7_round 111 = .ok (.ineg, 1) := by decide +kernel
theorem dX7_round_112 : decode cX7_round 112 = .ok (.lshl, 1) := by decide +kernel
theorem dX7_round_113 : decode cX7_round 113 = .ok (.lstore 10, 2) := by decide +kernel
theorem dX7_round_115 : decode cX7_round 115 = .ok (.goto 91, 3) := by decide +kernel
theorem dX7_round_118 : decode cX7_round 118 = .ok (.iload 9, 2) := by decide +kernel
theorem dX7_round_120 : decode cX7_round 120 = .ok (.bipush 63, 2) := by decide +kernel
theorem dX7_round_122 : decode cX7_round 122 = .ok (.if_icmp .gt 84, 3) := by decide +kernel
theorem dX7_round_125 : decode cX7_round 125 = .ok (.iload 9, 2) := by decide +kernel
theorem dX7_round_127 : decode cX7_round 127 = .ok (.bipush 63, 2) := by decide +kernel
theorem dX7_round_129 : decode cX7_round 129 = .ok (.if_icmp .ne 7, 3) := by decide +kernel
theorem dX7_round_132 : decode cX7_round 132 = .ok (.lconst 0, 1) := by decide +kernel
theorem dX7_round_133 : decode cX7_round 133 = .ok (.goto 7, 3) := by decide +kernel
theorem dX7_round_136 : decode cX7_round 136 = .ok (.lload_n 3, 1) := by decide +kernel
theorem dX7_round_137 : decode cX7_round 137 = .ok (.iload 9, 2) := by decide +kernel
theorem dX7_round_139 : decode cX7_round 139 = .ok (.lshr, 1) := by decide +kernel
theorem dX7_round_140 : decode cX7_round 140 = .ok (.lstore 10, 2) := by decide +kernel
theorem dX7_round_142 : decode cX7_round 142 = .ok (.iload 9, 2) := by decide +kernel
theorem dX7_round_144 : decode cX7_round 144 = .ok (.bipush 63, 2) := by decide +kernel
theorem dX7_round_146 : decode cX7_round 146 = .ok (.if_icmp .ne 7, 3) := by decide +kernel
theorem dX7_round_149 : decode cX7_round 149 = .ok (.lload_n 3, 1) := by decide +kernel
theorem dX7_round_150 : decode cX7_round 150 = .ok (.goto 10, 3) := by decide +kernel
theorem dX7_round_153 : decode cX7_round 153 = .ok (.lload_n 3, 1) := by decide +kernel
theorem dX7_round_154 : decode cX7_round 154 = .ok (.lload 10, 2) := by decide +kernel
theorem dX7_round_156 : decode cX7_round 156 = .ok (.iload 9, 2) := by decide +kernel
theorem dX7_round_158 : decode cX7_round 158 = .ok (.lshl, 1) := by decide +kernel
theorem dX7_round_159 : decode cX7_round 159 = .ok (.lsub, 1) := by decide +kernel
theorem dX7_round_160 : decode cX7_round 160 = .ok (.lstore 12, 2) := by decide +kernel
theorem dX7_round_162 : decode cX7_round 162 = .ok (.lconst 1, 1) := by decide +kernel
theorem dX7_round_163 : decode cX7_round 163 = .ok (.iload 9, 2) := by decide +kernel
theorem dX7_round_165 : decode cX7_round 165 = .ok (.iconst 1, 1) := by decide +kernel
theorem dX7_round_166 : decode cX7_round 166 = .ok (.isub, 1) := by decide +kernel
theorem dX7_round_167 : decode cX7_round 167 = .ok (.lshl, 1) := by decide +kernel
theorem dX7_round_168 : decode cX7_round 168 = .ok (.lstore 14, 2) := by decide +kernel
theorem dX7_round_170 : decode cX7_round 170 = .ok (.lload 12, 2) := by decide +kernel
theorem dX7_round_172 : decode cX7_round 172 = .ok (.lload 14, 2) := by decide +kernel
theorem dX7_round_174 : decode cX7_round 174 = .ok (.lcmp, 1) := by decide +kernel
theorem dX7_round_175 : decode cX7_round 175 = .ok (.ifCond .gt 25, 3) := by decide +kernel
theorem dX7_round_178 : decode cX7_round 178 = .ok (.lload 12, 2) := by decide +kernel
theorem dX7_round_180 : decode cX7_round 180 = .ok (.lload 14, 2) := by decide +kernel
theorem dX7_round_182 : decode cX7_round 182 = .ok (.lcmp, 1) := by decide +kernel
theorem dX7_round_183 : decode cX7_round 183 = .ok (.ifCond .ne 23, 3) := by decide +kernel
theorem dX7_round_186 : decode cX7_round 186 = .ok (.iload 6, 2) := by decide +kernel
theorem dX7_round_188 : decode cX7_round 188 = .ok (.ifCond .ne 12, 3) := by decide +kernel
theorem dX7_round_191 : decode cX7_round 191 = .ok (.lload 10, 2) := by decide +kernel
theorem dX7_round_193 : decode cX7_round 193 = .ok (.lconst 1, 1) := by decide +kernel
theorem dX7_round_194 : decode cX7_round 194 = .ok (.land, 1) := by decide +kernel
theorem dX7_round_195 : decode cX7_round 195 = .ok (.lconst 1, 1) := by decide +kernel
theorem dX7_round_196 : decode cX7_round 196 = .ok (.lcmp, 1) := by decide +kernel
theorem dX7_round_197 : decode cX7_round 197 = .ok (.ifCond .ne 9, 3) := by decide +kernel
theorem dX7_round_200 : decode cX7_round 200 = .ok (.lload 10, 2) := by decide +kernel
theorem dX7_round_202 : decode cX7_round 202 = .ok (.lconst 1, 1) := by decide +kernel
theorem dX7_round_203 : decode cX7_round 203 = .ok (.ladd, 1) := by decide +kernel
theorem dX7_round_204 : decode cX7_round 204 = .ok (.lstore 10, 2) := by decide +kernel
theorem dX7_round_206 : decode cX7_round 206 = .ok (.iload 8, 2) := by decide +kernel
theorem dX7_round_208 : decode cX7_round 208 = .ok (.aload_n 0, 1) := by decide +kernel
theorem dX7_round_209 : decode cX7_round 209 = .ok (.getfield 13, 3) := by decide +kernel
theorem dX7_round_212 : decode cX7_round 212 = .ok (.iload_n 1, 1) := by decide +kernel
theorem dX7_round_213 : decode cX7_round 213 = .ok (.iaload, 1) := by decide +kernel
theorem dX7_round_214 : decode cX7_round 214 = .ok (.isub, 1) := by decide +kernel
theorem dX7_round_215 : decode cX7_round 215 = .ok (.i2l, 1) := by decide +kernel
theorem dX7_round_216 : decode cX7_round 216 = .ok (.aload_n 0, 1) := by decide +kernel
theorem dX7_round_217 : decode cX7_round 217 = .ok (.getfield 7, 3) := by decide +kernel
theorem dX7_round_220 : decode cX7_round 220 = .ok (.iload_n 1, 1) := by decide +kernel
theorem dX7_round_221 : decode cX7_round 221 = .ok (.iaload, 1) := by decide +kernel
theorem dX7_round_222 : decode cX7_round 222 = .ok (.lshl, 1) := by decide +kernel
theorem dX7_round_223 : decode cX7_round 223 = .ok (.lload 10, 2) := by decide +kernel
theorem dX7_round_225 : decode cX7_round 225 = .ok (.ladd, 1) := by decide +kernel
theorem dX7_round_226 : decode cX7_round 226 = .ok (.lstore 12, 2) := by decide +kernel
theorem dX7_round_228 : decode cX7_round 228 = .ok (.aload_n 0, 1) := by decide +kernel
theorem dX7_round_229 : decode cX7_round 229 = .ok (.iload_n 1, 1) := by decide +kernel
theorem dX7_round_230 : decode cX7_round 230 = .ok (.lload 12, 2) := by decide +kernel
theorem dX7_round_232 : decode cX7_round 232 = .ok (.aload_n 0, 1) := by decide +kernel
theorem dX7_round_233 : decode cX7_round 233 = .ok (.getfield 31, 3) := by decide +kernel
theorem dX7_round_236 : decode cX7_round 236 = .ok (.iload_n 1, 1) := by decide +kernel
theorem dX7_round_237 : decode cX7_round 237 = .ok (.laload, 1) := by decide +kernel
theorem dX7_round_238 : decode cX7_round 238 = .ok (.lcmp, 1) := by decide +kernel
theorem dX7_round_239 : decode cX7_round 239 = .ok (.ifCond .le 12, 3) := by decide +kernel
theorem dX7_round_242 : decode cX7_round 242 = .ok (.aload_n 0, 1) := by decide +kernel
theorem dX7_round_243 : decode cX7_round 243 = .ok (.getfield 31, 3) := by decide +kernel
theorem dX7_round_246 : decode cX7_round 246 = .ok (.iload_n 1, 1) := by decide +kernel
theorem dX7_round_247 : decode cX7_round 247 = .ok (.laload, 1) := by decide +kernel
theorem dX7_round_248 : decode cX7_round 248 = .ok (.goto 5, 3) := by decide +kernel
theorem dX7_round_251 : decode cX7_round 251 = .ok (.lload 12, 2) := by decide +kernel
theorem dX7_round_253 : decode cX7_round 253 = .ok (.iload_n 2, 1) := by decide +kernel
theorem dX7_round_254 : decode cX7_round 254 = .ok (.invokevirtual 111, 3) := by decide +kernel
theorem dX7_round_257 : decode cX7_round 257 = .ok (.lreturn, 1) := by decide +kernel
theorem dX7_plus_0 : decode cX7_plus 0 = .ok (.aload_n 0, 1) := by decide +kernel
theorem dX7_plus_1 : decode cX7_plus 1 = .ok (.iload_n 1, 1) := by decide +kernel
theorem dX7_plus_2 : decode cX7_plus 2 = .ok (.lload_n 2, 1) := by decide +kernel
theorem dX7_plus_3 : decode cX7_plus 3 = .ok (.invokevirtual 98, 3) := by decide +kernel
theorem dX7_plus_6 : decode cX7_plus 6 = .ok (.ifCond .ne 13, 3) := by decide +kernel
theorem dX7_plus_9 : decode cX7_plus 9 = .ok (.aload_n 0, 1) := by decide +kernel
theorem dX7_plus_10 : decode cX7_plus 10 = .ok (.iload_n 1, 1) := by decide +kernel
theorem dX7_plus_11 : decode cX7_plus 11 = .ok (.lload 4, 2) := by decide +kernel
theorem dX7_plus_13 : decode cX7_plus 13 = .ok (.invokevirtual 98, 3) := by decide +kernel
theorem dX7_plus_16 : decode cX7_plus 16 = .ok (.ifCond .eq 10, 3) := by decide +kernel
theorem dX7_plus_19 : decode cX7_plus 19 = .ok (.aload_n 0, 1) := by decide +kernel
theorem dX7_plus_20 : decode cX7_plus 20 = .ok (.getfield 38, 3) := by decide +kernel
theorem dX7_plus_23 : decode cX7_plus 23 = .ok (.iload_n 1, 1) := by decide +kernel
theorem dX7_plus_24 : decode cX7_plus 24 = .ok (.laload, 1) := by decide +kernel
theorem dX7_plus_25 : decode cX7_plus 25 = .ok (.lreturn, 1) := by decide +kernel
theorem dX7_plus_26 : decode cX7_plus 26 = .ok (.aload_n 0, 1) := by decide +kernel
theorem dX7_plus_27 : decode cX7_plus 27 = .ok (.iload_n 1, 1) := by decide +kernel
theorem dX7_plus_28 : decode cX7_plus 28 = .ok (.lload_n 2, 1) := by decide +kernel
theorem dX7_plus_29 : decode cX7_plus 29 = .ok (.invokevirtual 105, 3) := by decide +kernel
theorem dX7_plus_32 : decode cX7_plus 32 = .ok (.ifCond .eq 31, 3) := by decide +kernel
theorem dX7_plus_35 : decode cX7_plus 35 = .ok (.aload_n 0, 1) := by decide +kernel
theorem dX7_plus_36 : decode cX7_plus 36 = .ok (.iload_n 1, 1) := by decide +kernel
theorem dX7_plus_37 : decode cX7_plus 37 = .ok (.lload 4, 2) := by decide +kernel
theorem dX7_plus_39 : decode cX7_plus 39 = .ok (.invokevirtual 105, 3) := by decide +kernel
theorem dX7_plus_42 : decode cX7_plus 42 = .ok (.ifCond .eq 19, 3) := by decide +kernel
theorem dX7_plus_45 : decode cX7_plus 45 = .ok (.lload_n 2, 1) := by decide +kernel
theorem dX7_plus_46 : decode cX7_plus 46 = .ok (.lload 4, 2) := by decide +kernel
theorem dX7_plus_48 : decode cX7_plus 48 = .ok (.lcmp, 1) := by decide +kernel
theorem dX7_plus_49 : decode cX7_plus 49 = .ok (.ifCond .eq 12, 3) := by decide +kernel
theorem dX7_plus_52 : decode cX7_plus 52 = .ok (.aload_n 0, 1) := by decide +kernel
theorem dX7_plus_53 : decode cX7_plus 53 = .ok (.getfield 38, 3) := by decide +kernel
theorem dX7_plus_56 : decode cX7_plus 56 = .ok (.iload_n 1, 1) := by decide +kernel
theorem dX7_plus_57 : decode cX7_plus 57 = .ok (.laload, 1) := by decide +kernel
theorem dX7_plus_58 : decode cX7_plus 58 = .ok (.goto 4, 3) := by decide +kernel
theorem dX7_plus_61 : decode cX7_plus 61 = .ok (.lload_n 2, 1) := by decide +kernel
theorem dX7_plus_62 : decode cX7_plus 62 = .ok (.lreturn, 1) := by decide +kernel
theorem dX7_plus_63 : decode cX7_plus 63 = .ok (.aload_n 0, 1) := by decide +kernel
theorem dX7_plus_64 : decode cX7_plus 64 = .ok (.iload_n 1, 1) := by decide +kernel
theorem dX7_plus_65 : decode cX7_plus 65 = .ok (.lload 4, 2) := by decide +kernel
theorem dX7_plus_67 : decode cX7_plus 67 = .ok (.invokevirtual 105, 3) := by decide +kernel
theorem dX7_plus_70 : decode cX7_plus 70 = .ok (.ifCond .eq 6, 3) := by decide +kernel
theorem dX7_plus_73 : decode cX7_plus 73 = .ok (.lload 4, 2) := by decide +kernel
theorem dX7_plus_75 : decode cX7_plus 75 = .ok (.lreturn, 1) := by decide +kernel
theorem dX7_plus_76 : decode cX7_plus 76 = .ok (.aload_n 0, 1) := by decide +kernel
theorem dX7_plus_77 : decode cX7_plus 77 = .ok (.iload_n 1, 1) := by decide +kernel
theorem dX7_plus_78 : decode cX7_plus 78 = .ok (.lload 4, 2) := by decide +kernel
theorem dX7_plus_80 : decode cX7_plus 80 = .ok (.invokevirtual 102, 3) := by decide +kernel
theorem dX7_plus_83 : decode cX7_plus 83 = .ok (.ifCond .eq 21, 3) := by decide +kernel
theorem dX7_plus_86 : decode cX7_plus 86 = .ok (.aload_n 0, 1) := by decide +kernel
theorem dX7_plus_87 : decode cX7_plus 87 = .ok (.iload_n 1, 1) := by decide +kernel
theorem dX7_plus_88 : decode cX7_plus 88 = .ok (.lload_n 2, 1) := by decide +kernel
theorem dX7_plus_89 : decode cX7_plus 89 = .ok (.invokevirtual 102, 3) := by decide +kernel
theorem dX7_plus_92 : decode cX7_plus 92 = .ok (.ifCond .eq 10, 3) := by decide +kernel
theorem dX7_plus_95 : decode cX7_plus 95 = .ok (.lload_n 2, 1) := by decide +kernel
theorem dX7_plus_96 : decode cX7_plus 96 = .ok (.lload 4, 2) := by decide +kernel
theorem dX7_plus_98 : decode cX7_plus 98 = .ok (.land, 1) := by decide +kernel
theorem dX7_plus_99 : decode cX7_plus 99 = .ok (.goto 4, 3) := by decide +kernel
theorem dX7_plus_102 : decode cX7_plus 102 = .ok (.lload_n 2, 1) := by decide +kernel
theorem dX7_plus_103 : decode cX7_plus 103 = .ok (.lreturn, 1) := by decide +kernel
theorem dX7_plus_104 : decode cX7_plus 104 = .ok (.aload_n 0, 1) := by decide +kernel
theorem dX7_plus_105 : decode cX7_plus 105 = .ok (.iload_n 1, 1) := by decide +kernel
theorem dX7_plus_106 : decode cX7_plus 106 = .ok (.lload_n 2, 1) := by decide +kernel
theorem dX7_plus_107 : decode cX7_plus 107 = .ok (.invokevirtual 102, 3) := by decide +kernel
theorem dX7_plus_110 : decode cX7_plus 110 = .ok (.ifCond .eq 6, 3) := by decide +kernel
theorem dX7_plus_113 : decode cX7_plus 113 = .ok (.lload 4, 2) := by decide +kernel
theorem dX7_plus_115 : decode cX7_plus 115 = .ok (.lreturn, 1) := by decide +kernel
theorem dX7_plus_116 : decode cX7_plus 116 = .ok (.aload_n 0, 1) := by decide +kernel
theorem dX7_plus_117 : decode cX7_plus 117 = .ok (.iload_n 1, 1) := by decide +kernel
theorem dX7_plus_118 : decode cX7_plus 118 = .ok (.lload_n 2, 1) := by decide +kernel
theorem dX7_plus_119 : decode cX7_plus 119 = .ok (.invokevirtual 94, 3) := by decide +kernel
theorem dX7_plus_122 : decode cX7_plus 122 = .ok (.aload_n 0, 1) := by decide +kernel
theorem dX7_plus_123 : decode cX7_plus 123 = .ok (.iload_n 1, 1) := by decide +kernel
theorem dX7_plus_124 : decode cX7_plus 124 = .ok (.lload 4, 2) := by decide +kernel
theorem dX7_plus_126 : decode cX7_plus 126 = .ok (.invokevirtual 94, 3) := by decide +kernel
theorem dX7_plus_129 : decode cX7_plus 129 = .ok (.lcmp, 1) := by decide +kernel
theorem dX7_plus_130 : decode cX7_plus 130 = .ok (.ifCond .lt 14, 3) := by decide +kernel
theorem dX7_plus_133 : decode cX7_plus 133 = .ok (.aload_n 0, 1) := by decide +kernel
theorem dX7_plus_134 : decode cX7_plus 134 = .ok (.iload_n 1, 1) := by decide +kernel
theorem dX7_plus_135 : decode cX7_plus 135 = .ok (.lload_n 2, 1) := by decide +kernel
theorem dX7_plus_136 : decode cX7_plus 136 = .ok (.lload 4, 2) := by decide +kernel
theorem dX7_plus_138 : decode cX7_plus 138 = .ok (.invokevirtual 115, 3) := by decide +kernel
theorem dX7_plus_141 : decode cX7_plus 141 = .ok (.goto 11, 3) := by decide +kernel
theorem dX7_plus_144 : decode cX7_plus 144 = .ok (.aload_n 0, 1) := by decide +kernel
theorem dX7_plus_145 : decode cX7_plus 145 = .ok (.iload_n 1, 1) := by decide +kernel
theorem dX7_plus_146 : decode cX7_plus 146 = .ok (.lload 4, 2) := by decide +kernel
theorem dX7_plus_148 : decode cX7_plus 148 = .ok (.lload_n 2, 1) := by decide +kernel
theorem dX7_plus_149 : decode cX7_plus 149 = .ok (.invokevirtual 115, 3) := by decide +kernel
theorem dX7_plus_152 : decode cX7_plus 152 = .ok (.lreturn, 1) := by decide +kernel
theorem dX7_larger_0 : decode cX7_larger 0 = .ok (.aload_n 0, 1) := by decide +kernel
theorem dX7_larger_1 : decode cX7_larger 1 = .ok (.iload_n 1, 1) := by decide +kernel
theorem dX7_larger_2 : decode cX7_larger 2 = .ok (.lload_n 2, 1) := by decide +kernel
theorem dX7_larger_3 : decode cX7_larger 3 = .ok (.invokevirtual 119, 3) := by decide +kernel
theorem dX7_larger_6 : decode cX7_larger 6 = .ok (.bipush 9, 2) := by decide +kernel
theorem dX7_larger_8 : decode cX7_larger 8 = .ok (.lshl, 1) := by decide +kernel
theorem dX7_larger_9 : decode cX7_larger 9 = .ok (.lstore 6, 2) := by decide +kernel
theorem dX7_larger_11 : decode cX7_larger 11 = .ok (.aload_n 0, 1) := by decide +kernel
theorem dX7_larger_12 : decode cX7_larger 12 = .ok (.iload_n 1, 1) := by decide +kernel
theorem dX7_larger_13 : decode cX7_larger 13 = .ok (.lload 4, 2) := by decide +kernel
theorem dX7_larger_15 : decode cX7_larger 15 = .ok (.invokevirtual 119, 3) := by decide +kernel
theorem dX7_larger_18 : decode cX7_larger 18 = .ok (.bipush 9, 2) := by decide +kernel
theorem dX7_larger_20 : decode cX7_larger 20 = .ok (.lshl, 1) := by decide +kernel
theorem dX7_larger_21 : decode cX7_larger 21 = .ok (.lstore 8, 2) := by decide +kernel
theorem dX7_larger_23 : decode cX7_larger 23 = .ok (.aload_n 0, 1) := by decide +kernel
theorem dX7_larger_24 : decode cX7_larger 24 = .ok (.iload_n 1, 1) := by decide +kernel
theorem dX7_larger_25 : decode cX7_larger 25 = .ok (.lload_n 2, 1) := by decide +kernel
theorem dX7_larger_26 : decode cX7_larger 26 = .ok (.invokevirtual 122, 3) := by decide +kernel
theorem dX7_larger_29 : decode cX7_larger 29 = .ok (.aload_n 0, 1) := by decide +kernel
theorem dX7_larger_30 : decode cX7_larger 30 = .ok (.iload_n 1, 1) := by decide +kernel
theorem dX7_larger_31 : decode cX7_larger 31 = .ok (.lload 4, 2) := by decide +kernel
theorem dX7_larger_33 : decode cX7_larger 33 = .ok (.invokevirtual 122, 3) := by decide +kernel
theorem dX7_larger_36 : decode cX7_larger 36 = .ok (.isub, 1) := by decide +kernel
theorem dX7_larger_37 : decode cX7_larger 37 = .ok (.istore 10, 2) := by decide +kernel
theorem dX7_larger_39 : decode cX7_larger 39 = .ok (.iload 10, 2) := by decide +kernel
theorem dX7_larger_41 : decode cX7_larger 41 = .ok (.bipush 62, 2) := by decide +kernel
theorem dX7_larger_43 : decode cX7_larger 43 = .ok (.if_icmp .le 7, 3) := by decide +kernel
theorem dX7_larger_46 : decode cX7_larger 46 = .ok (.lconst 0, 1) := by decide +kernel
theorem dX7_larger_47 : decode cX7_larger 47 = .ok (.goto 8, 3) := by decide +kernel
theorem dX7_larger_50 : decode cX7_larger 50 = .ok (.lload 8, 2) := by decide +kernel
theorem dX7_larger_52 : decode cX7_larger 52 = .ok (.iload 10, 2) := by decide +kernel
theorem dX7_larger_54 : decode cX7_larger 54 = .ok (.lshr, 1) := by decide +kernel
theorem dX7_larger_55 : decode cX7_larger 55 = .ok (.lstore 11, 2) := by decide +kernel
theorem dX7_larger_57 : decode cX7_larger 57 = .ok (.iload 10, 2) := by decide +kernel
theorem dX7_larger_59 : decode cX7_larger 59 = .ok (.bipush 62, 2) := by decide +kernel
theorem dX7_larger_61 : decode cX7_larger 61 = .ok (.if_icmp .gt 14, 3) := by decide +kernel
theorem dX7_larger_64 : decode cX7_larger 64 = .ok (.lload 11, 2) := by decide +kernel
theorem dX7_larger_66 : decode cX7_larger 66 = .ok (.iload 10, 2) := by decide +kernel
theorem dX7_larger_68 : decode cX7_larger 68 = .ok (.lshl, 1) := by decide +kernel
theorem dX7_larger_69 : decode cX7_larger 69 = .ok (.lload 8, 2) := by decide +kernel
theorem dX7_larger_71 : decode cX7_larger 71 = .ok (.lcmp, 1) := by decide +kernel
theorem dX7_larger_72 : decode cX7_larger 72 = .ok (.ifCond .eq 7, 3) := by decide +kernel
theorem dX7_larger_75 : decode cX7_larger 75 = .ok (.iconst 1, 1) := by decide +kernel
theorem dX7_larger_76 : decode cX7_larger 76 = .ok (.goto 4, 3) := by decide +kernel
theorem dX7_larger_79 : decode cX7_larger 79 = .ok (.iconst 0, 1) := by decide +kernel
theorem dX7_larger_80 : decode cX7_larger 80 = .ok (.istore 13, 2) := by decide +kernel
theorem dX7_larger_82 : decode cX7_larger 82 = .ok (.aload_n 0, 1) := by decide +kernel
theorem dX7_larger_83 : decode cX7_larger 83 = .ok (.iload_n 1, 1) := by decide +kernel
theorem dX7_larger_84 : decode cX7_larger 84 = .ok (.lload_n 2, 1) := by decide +kernel
theorem dX7_larger_85 : decode cX7_larger 85 = .ok (.invokevirtual 108, 3) := by decide +kernel
theorem dX7_larger_88 : decode cX7_larger 88 = .ok (.aload_n 0, 1) := by decide +kernel
theorem dX7_larger_89 : decode cX7_larger 89 = .ok (.iload_n 1, 1) := by decide +kernel
theorem dX7_larger_90 : decode cX7_larger 90 = .ok (.lload 4, 2) := by decide +kernel
theorem dX7_larger_92 : decode cX7_larger 92 = .ok (.invokevirtual 108, 3) := by decide +kernel
theorem dX7_larger_95 : decode cX7_larger 95 = .ok (.if_icmp .ne 11, 3) := by decide +kernel
theorem dX7_larger_98 : decode cX7_larger 98 = .ok (.lload 6, 2) := by decide +kernel
theorem dX7_larger_100 : decode cX7_larger 100 = .ok (.lload 11, 2) := by decide +kernel
theorem dX7_larger_102 : decode cX7_larger 102 = .ok (.ladd, 1) := by decide +kernel
theorem dX7_larger_103 : decode cX7_larger 103 = .ok (.goto 20, 3) := by decide +kernel
theorem dX7_larger_106 : decode cX7_larger 106 = .ok (.lload 6, 2) := by decide +kernel
theorem dX7_larger_108 : decode cX7_larger 108 = .ok (.lload 11, 2) := by decide +kernel
theorem dX7_larger_110 : decode cX7_larger 110 = .ok (.lsub, 1) := by decide +kernel
theorem dX7_larger_111 : decode cX7_larger 111 = .ok (.iload 13, 2) := by decide +kernel
theorem dX7_larger_113 : decode cX7_larger 113 = .ok (.ifCond .eq 7, 3) := by decide +kernel
theorem dX7_larger_116 : decode cX7_larger 116 = .ok (.iconst 1, 1) := by decide +kernel
theorem dX7_larger_117 : decode cX7_larger 117 = .ok (.goto 4, 3) := by decide +kernel
theorem dX7_larger_120 : decode cX7_larger 120 = .ok (.iconst 0, 1) := by decide +kernel
theorem dX7_larger_121 : decode cX7_larger 121 = .ok (.i2l, 1) := by decide +kernel
theorem dX7_larger_122 : decode cX7_larger 122 = .ok (.lsub, 1) := by decide +kernel
theorem dX7_larger_123 : decode cX7_larger 123 = .ok (.lstore 14, 2) := by decide +kernel
theorem dX7_larger_125 : decode cX7_larger 125 = .ok (.lload 14, 2) := by decide +kernel
theorem dX7_larger_127 : decode cX7_larger 127 = .ok (.lconst 0, 1) := by decide +kernel
theorem dX7_larger_128 : decode cX7_larger 128 = .ok (.lcmp, 1) := by decide +kernel
theorem dX7_larger_129 : decode cX7_larger 129 = .ok (.ifCond .ne 7, 3) := by decide +kernel
theorem dX7_larger_132 : decode cX7_larger 132 = .ok (.lconst 0, 1) := by decide +kernel
theorem dX7_larger_133 : decode cX7_larger 133 = .ok (.goto 27, 3) := by decide +kernel
theorem dX7_larger_136 : decode cX7_larger 136 = .ok (.aload_n 0, 1) := by decide +kernel
theorem dX7_larger_137 : decode cX7_larger 137 = .ok (.iload_n 1, 1) := by decide +kernel
theorem dX7_larger_138 : decode cX7_larger 138 = .ok (.aload_n 0, 1) := by decide +kernel
theorem dX7_larger_139 : decode cX7_larger 139 = .ok (.iload_n 1, 1) := by decide +kernel
theorem dX7_larger_140 : decode cX7_larger 140 = .ok (.lload_n 2, 1) := by decide +kernel
theorem dX7_larger_141 : decode cX7_larger 141 = .ok (.invokevirtual 108, 3) := by decide +kernel
theorem dX7_larger_144 : decode cX7_larger 144 = .ok (.lload 14, 2) := by decide +kernel
theorem dX7_larger_146 : decode cX7_larger 146 = .ok (.aload_n 0, 1) := by decide +kernel
theorem dX7_larger_147 : decode cX7_larger 147 = .ok (.iload_n 1, 1) := by decide +kernel
theorem dX7_larger_148 : decode cX7_larger 148 = .ok (.lload_n 2, 1) := by decide +kernel
theorem dX7_larger_149 : decode cX7_larger 149 = .ok (.invokevirtual 122, 3) := by decide +kernel
theorem dX7_larger_152 : decode cX7_larger 152 = .ok (.bipush 9, 2) := by decide +kernel
theorem dX7_larger_154 : decode cX7_larger 154 = .ok (.isub, 1) := by decide +kernel
theorem dX7_larger_155 : decode cX7_larger 155 = .ok (.iload 13, 2) := by decide +kernel
theorem dX7_larger_157 : decode cX7_larger 157 = .ok (.invokevirtual 125, 3) := by decide +kernel
theorem dX7_larger_160 : decode cX7_larger 160 = .ok (.lreturn, 1) := by decide +kernel
theorem dX7_times_0 : decode cX7_times 0 = .ok (.aload_n 0, 1) := by decide +kernel
theorem dX7_times_1 : decode cX7_times 1 = .ok (.iload_n 1, 1) := by decide +kernel
theorem dX7_times_2 : decode cX7_times 2 = .ok (.lload_n 2, 1) := by decide +kernel
theorem dX7_times_3 : decode cX7_times 3 = .ok (.invokevirtual 98, 3) := by decide +kernel
theorem dX7_times_6 : decode cX7_times 6 = .ok (.ifCond .ne 13, 3) := by decide +kernel
theorem dX7_times_9 : decode cX7_times 9 = .ok (.aload_n 0, 1) := by decide +kernel
theorem dX7_times_10 : decode cX7_times 10 = .ok (.iload_n 1, 1) := by decide +kernel
theorem dX7_times_11 : decode cX7_times 11 = .ok (.lload 4, 2) := by decide +kernel
theorem dX7_times_13 : decode cX7_times 13 = .ok (.invokevirtual 98, 3) := by decide +kernel
theorem dX7_times_16 : decode cX7_times 16 = .ok (.ifCond .eq 10, 3) := by decide +kernel
theorem dX7_times_19 : decode cX7_times 19 = .ok (.aload_n 0, 1) := by decide +kernel
theorem dX7_times_20 : decode cX7_times 20 = .ok (.getfield 38, 3) := by decide +kernel
theorem dX7_times_23 : decode cX7_times 23 = .ok (.iload_n 1, 1) := by decide +kernel
theorem dX7_times_24 : decode cX7_times 24 = .ok (.laload, 1) := by decide +kernel
theorem dX7_times_25 : decode cX7_times 25 = .ok (.lreturn, 1) := by decide +kernel
theorem dX7_times_26 : decode cX7_times 26 = .ok (.aload_n 0, 1) := by decide +kernel
theorem dX7_times_27 : decode cX7_times 27 = .ok (.iload_n 1, 1) := by decide +kernel
theorem dX7_times_28 : decode cX7_times 28 = .ok (.lload_n 2, 1) := by decide +kernel
theorem dX7_times_29 : decode cX7_times 29 = .ok (.invokevirtual 108, 3) := by decide +kernel
theorem dX7_times_32 : decode cX7_times 32 = .ok (.aload_n 0, 1) := by decide +kernel
theorem dX7_times_33 : decode cX7_times 33 = .ok (.iload_n 1, 1) := by decide +kernel
theorem dX7_times_34 : decode cX7_times 34 = .ok (.lload 4, 2) := by decide +kernel
theorem dX7_times_36 : decode cX7_times 36 = .ok (.invokevirtual 108, 3) := by decide +kernel
theorem dX7_times_39 : decode cX7_times 39 = .ok (.if_icmp .eq 7, 3) := by decide +kernel
theorem dX7_times_42 : decode cX7_times 42 = .ok (.iconst 1, 1) := by decide +kernel
theorem dX7_times_43 : decode cX7_times 43 = .ok (.goto 4, 3) := by decide +kernel
theorem dX7_times_46 : decode cX7_times 46 = .ok (.iconst 0, 1) := by decide +kernel
theorem dX7_times_47 : decode cX7_times 47 = .ok (.istore 6, 2) := by decide +kernel
theorem dX7_times_49 : decode cX7_times 49 = .ok (.aload_n 0, 1) := by decide +kernel
theorem dX7_times_50 : decode cX7_times 50 = .ok (.iload_n 1, 1) := by decide +kernel
theorem dX7_times_51 : decode cX7_times 51 = .ok (.lload_n 2, 1) := by decide +kernel
theorem dX7_times_52 : decode cX7_times 52 = .ok (.invokevirtual 105, 3) := by decide +kernel
theorem dX7_times_55 : decode cX7_times 55 = .ok (.ifCond .ne 13, 3) := by decide +kernel
theorem dX7_times_58 : decode cX7_times 58 = .ok (.aload_n 0, 1) := by decide +kernel
theorem dX7_times_59 : decode cX7_times 59 = .ok (.iload_n 1, 1) := by decide +kernel
theorem dX7_times_60 : decode cX7_times 60 = .ok (.lload 4, 2) := by decide +kernel
theorem dX7_times_62 : decode cX7_times 62 = .ok (.invokevirtual 105, 3) := by decide +kernel
theorem dX7_times_65 : decode cX7_times 65 = .ok (.ifCond .eq 45, 3) := by decide +kernel
theorem dX7_times_68 : decode cX7_times 68 = .ok (.aload_n 0, 1) := by decide +kernel
theorem dX7_times_69 : decode cX7_times 69 = .ok (.iload_n 1, 1) := by decide +kernel
theorem dX7_times_70 : decode cX7_times 70 = .ok (.lload_n 2, 1) := by decide +kernel
theorem dX7_times_71 : decode cX7_times 71 = .ok (.invokevirtual 102, 3) := by decide +kernel
theorem dX7_times_74 : decode cX7_times 74 = .ok (.ifCond .ne 13, 3) := by decide +kernel
theorem dX7_times_77 : decode cX7_times 77 = .ok (.aload_n 0, 1) := by decide +kernel
theorem dX7_times_78 : decode cX7_times 78 = .ok (.iload_n 1, 1) := by decide +kernel
theorem dX7_times_79 : decode cX7_times 79 = .ok (.lload 4, 2) := by decide +kernel
theorem dX7_times_81 : decode cX7_times 81 = .ok (.invokevirtual 102, 3) := by decide +kernel
theorem dX7_times_84 : decode cX7_times 84 = .ok (.ifCond .eq 12, 3) := by decide +kernel
theorem dX7_times_87 : decode cX7_times 87 = .ok (.aload_n 0, 1) := by decide +kernel
theorem dX7_times_88 : decode cX7_times 88 = .ok (.getfield 38, 3) := by decide +kernel
theorem dX7_times_91 : decode cX7_times 91 = .ok (.iload_n 1, 1) := by decide +kernel
theorem dX7_times_92 : decode cX7_times 92 = .ok (.laload, 1) := by decide +kernel
theorem dX7_times_93 : decode cX7_times 93 = .ok (.goto 16, 3) := by decide +kernel
theorem dX7_times_96 : decode cX7_times 96 = .ok (.aload_n 0, 1) := by decide +kernel
theorem dX7_times_97 : decode cX7_times 97 = .ok (.iload_n 1, 1) := by decide +kernel
theorem dX7_times_98 : decode cX7_times 98 = .ok (.aload_n 0, 1) := by decide +kernel
theorem dX7_times_99 : decode cX7_times 99 = .ok (.getfield 31, 3) := by decide +kernel
theorem dX7_times_102 : decode cX7_times 102 = .ok (.iload_n 1, 1) := by decide +kernel
theorem dX7_times_103 : decode cX7_times 103 = .ok (.laload, 1) := by decide +kernel
theorem dX7_times_104 : decode cX7_times 104 = .ok (.iload 6, 2) := by decide +kernel
theorem dX7_times_106 : decode cX7_times 106 = .ok (.invokevirtual 111, 3) := by decide +kernel
theorem dX7_times_109 : decode cX7_times 109 = .ok (.lreturn, 1) := by decide +kernel
theorem dX7_times_110 : decode cX7_times 110 = .ok (.aload_n 0, 1) := by decide +kernel
theorem dX7_times_111 : decode cX7_times 111 = .ok (.iload_n 1, 1) := by decide +kernel
theorem dX7_times_112 : decode cX7_times 112 = .ok (.lload_n 2, 1) := by decide +kernel
theorem dX7_times_113 : decode cX7_times 113 = .ok (.invokevirtual 102, 3) := by decide +kernel
theorem dX7_times_116 : decode cX7_times 116 = .ok (.ifCond .ne 13, 3) := by decide +kernel
theorem dX7_times_119 : decode cX7_times 119 = .ok (.aload_n 0, 1) := by decide +kernel
theorem dX7_times_120 : decode cX7_times 120 = .ok (.iload_n 1, 1) := by decide +kernel
theorem dX7_times_121 : decode cX7_times 121 = .ok (.lload 4, 2) := by decide +kernel
theorem dX7_times_123 : decode cX7_times 123 = .ok (.invokevirtual 102, 3) := by decide +kernel
theorem dX7_times_126 : decode cX7_times 126 = .ok (.ifCond .eq 12, 3) := by decide +kernel
theorem dX7_times_129 : decode cX7_times 129 = .ok (.aload_n 0, 1) := by decide +kernel
theorem dX7_times_130 : decode cX7_times 130 = .ok (.iload_n 1, 1) := by decide +kernel
theorem dX7_times_131 : decode cX7_times 131 = .ok (.lconst 0, 1) := by decide +kernel
theorem dX7_times_132 : decode cX7_times 132 = .ok (.iload 6, 2) := by decide +kernel
theorem dX7_times_134 : decode cX7_times 134 = .ok (.invokevirtual 111, 3) := by decide +kernel
theorem dX7_times_137 : decode cX7_times 137 = .ok (.lreturn, 1) := by decide +kernel
theorem dX7_times_138 : decode cX7_times 138 = .ok (.aload_n 0, 1) := by decide +kernel
theorem dX7_times_139 : decode cX7_times 139 = .ok (.iload_n 1, 1) := by decide +kernel
theorem dX7_times_140 : decode cX7_times 140 = .ok (.lload_n 2, 1) := by decide +kernel
theorem dX7_times_141 : decode cX7_times 141 = .ok (.invokevirtual 119, 3) := by decide +kernel
theorem dX7_times_144 : decode cX7_times 144 = .ok (.lstore 7, 2) := by decide +kernel
theorem dX7_times_146 : decode cX7_times 146 = .ok (.aload_n 0, 1) := by decide +kernel
theorem dX7_times_147 : decode cX7_times 147 = .ok (.iload_n 1, 1) := by decide +kernel
theorem dX7_times_148 : decode cX7_times 148 = .ok (.lload 4, 2) := by decide +kernel
theorem dX7_times_150 : decode cX7_times 150 = .ok (.invokevirtual 119, 3) := by decide +kernel
theorem dX7_times_153 : decode cX7_times 153 = .ok (.lstore 9, 2) := by decide +kernel
theorem dX7_times_155 : decode cX7_times 155 = .ok (.aload_n 0, 1) := by decide +kernel
theorem dX7_times_156 : decode cX7_times 156 = .ok (.iload_n 1, 1) := by decide +kernel
theorem dX7_times_157 : decode cX7_times 157 = .ok (.lload_n 2, 1) := by decide +kernel
theorem dX7_times_158 : decode cX7_times 158 = .ok (.invokevirtual 122, 3) := by decide +kernel
theorem dX7_times_161 : decode cX7_times 161 = .ok (.aload_n 0, 1) := by decide +kernel
theorem dX7_times_162 : decode cX7_times 162 = .ok (.iload_n 1, 1) := by decide +kernel
theorem dX7_times_163 : decode cX7_times 163 = .ok (.lload 4, 2) := by decide +kernel
theorem dX7_times_165 : decode cX7_times 165 = .ok (.invokevirtual 122, 3) := by decide +kernel
theorem dX7_times_168 : decode cX7_times 168 = .ok (.iadd, 1) := by decide +kernel
theorem dX7_times_169 : decode cX7_times 169 = .ok (.istore 11, 2) := by decide +kernel
theorem dX7_times_171 : decode cX7_times 171 = .ok (.lload 7, 2) := by decide +kernel
theorem dX7_times_173 : decode cX7_times 173 = .ok (.ldc2_w 129, 3) := by decide +kernel
theorem dX7_times_176 : decode cX7_times 176 = .ok (.land, 1) := by decide +kernel
theorem dX7_times_177 : decode cX7_times 177 = .ok (.lload 9, 2) := by decide +kernel
theorem dX7_times_179 : decode cX7_times 179 = .ok (.ldc2_w 129, 3) := by decide +kernel
theorem dX7_times_182 : decode cX7_times 182 = .ok (.land, 1) := by decide +kernel
theorem dX7_times_183 : decode cX7_times 183 = .ok (.lmul, 1) := by decide +kernel
theorem dX7_times_184 : decode cX7_times 184 = .ok (.lstore 12, 2) := by decide +kernel
theorem dX7_times_186 : decode cX7_times 186 = .ok (.lload 7, 2) := by decide +kernel
theorem dX7_times_188 : decode cX7_times 188 = .ok (.bipush 27, 2) := by decide +kernel
theorem dX7_times_190 : decode cX7_times 190 = .ok (.lshr, 1) := by decide +kernel
theorem dX7_times_191 : decode cX7_times 191 = .ok (.lload 9, 2) := by decide +kernel
theorem dX7_times_193 : decode cX7_times 193 = .ok (.ldc2_w 129, 3) := by decide +kernel
theorem dX7_times_196 : decode cX7_times 196 = .ok (.land, 1) := by decide +kernel
theorem dX7_times_197 : decode cX7_times 197 = .ok (.lmul, 1) := by decide +kernel
theorem dX7_times_198 : decode cX7_times 198 = .ok (.lload 7, 2) := by decide +kernel
theorem dX7_times_200 : decode cX7_times 200 = .ok (.ldc2_w 129, 3) := by decide +kernel
theorem dX7_times_203 : decode cX7_times 203 = .ok (.land, 1) := by decide +kernel
theorem dX7_times_204 : decode cX7_times 204 = .ok (.lload 9, 2) := by decide +kernel
theorem dX7_times_206 : decode cX7_times 206 = .ok (.bipush 27, 2) := by decide +kernel
theorem dX7_times_208 : decode cX7_times 208 = .ok (.lshr, 1) := by decide +kernel
theorem dX7_times_209 : decode cX7_times 209 = .ok (.lmul, 1) := by decide +kernel
theorem dX7_times_210 : decode cX7_times 210 = .ok (.ladd, 1) := by decide +kernel
theorem dX7_times_211 : decode cX7_times 211 = .ok (.lload 12, 2) := by decide +kernel
theorem dX7_times_213 : decode cX7_times 213 = .ok (.bipush 27, 2) := by decide +kernel
theorem dX7_times_215 : decode cX7_times 215 = .ok (.lshr, 1) := by decide +kernel
theorem dX7_times_216 : decode cX7_times 216 = .ok (.ladd, 1) := by decide +kernel
theorem dX7_times_217 : decode cX7_times 217 = .ok (.lstore 14, 2) := by decide +kernel
theorem dX7_times_219 : decode cX7_times 219 = .ok (.lload 7, 2) := by decide +kernel
theorem dX7_times_221 : decode cX7_times 221 = .ok (.bipush 27, 2) := by decide +kernel
theorem dX7_times_223 : decode cX7_times 223 = .ok (.lshr, 1) := by decide +kernel
theorem dX7_times_224 : decode cX7_times 224 = .ok (.lload 9, 2) := by decide +kernel
theorem dX7_times_226 : decode cX7_times 226 = .ok (.bipush 27, 2) := by decide +kernel
theorem dX7_times_228 : decode cX7_times 228 = .ok (.lshr, 1) := by decide +kernel
theorem dX7_times_229 : decode cX7_times 229 = .ok (.lmul, 1) := by decide +kernel
theorem dX7_times_230 : decode cX7_times 230 = .ok (.lload 14, 2) := by decide +kernel
theorem dX7_times_232 : decode cX7_times 232 = .ok (.bipush 27, 2) := by decide +kernel
theorem dX7_times_234 : decode cX7_times 234 = .ok (.lshr, 1) := by decide +kernel
theorem dX7_times_235 : decode cX7_times 235 = .ok (.ladd, 1) := by decide +kernel
theorem dX7_times_236 : decode cX7_times 236 = .ok (.lstore 16, 2) := by decide +kernel
theorem dX7_times_238 : decode cX7_times 238 = .ok (.lload 14, 2) := by decide +kernel
theorem dX7_times_240 : decode cX7_times 240 = .ok (.ldc2_w 129, 3) := by decide +kernel
theorem dX7_times_243 : decode cX7_times 243 = .ok (.land, 1) := by decide +kernel
theorem dX7_times_244 : decode cX7_times 244 = .ok (.bipush 27, 2) := by decide +kernel
theorem dX7_times_246 : decode cX7_times 246 = .ok (.lshl, 1) := by decide +kernel
theorem dX7_times_247 : decode cX7_times 247 = .ok (.lload 12, 2) := by decide +kernel
theorem dX7_times_249 : decode cX7_times 249 = .ok (.ldc2_w 129, 3) := by decide +kernel
theorem dX7_times_252 : decode cX7_times 252 = .ok (.land, 1) := by decide +kernel
theorem dX7_times_253 : decode cX7_times 253 = .ok (.lor, 1) := by decide +kernel
theorem dX7_times_254 : decode cX7_times 254 = .ok (.lstore 18, 2) := by decide +kernel
theorem dX7_times_256 : decode cX7_times 256 = .ok (.lload 16, 2) := by decide +kernel
theorem dX7_times_258 : decode cX7_times 258 = .ok (.lconst 0, 1) := by decide +kernel
theorem dX7_times_259 : decode cX7_times 259 = .ok (.lcmp, 1) := by decide +kernel
theorem dX7_times_260 : decode cX7_times 260 = .ok (.ifCond .ne 16, 3) := by decide +kernel
theorem dX7_times_263 : decode cX7_times 263 = .ok (.aload_n 0, 1) := by decide +kernel
theorem dX7_times_264 : decode cX7_times 264 = .ok (.iload_n 1, 1) := by decide +kernel
theorem dX7_times_265 : decode cX7_times 265 = .ok (.iload 6, 2) := by decide +kernel
theorem dX7_times_267 : decode cX7_times 267 = .ok (.lload 18, 2) := by decide +kernel
theorem dX7_times_269 : decode cX7_times 269 = .ok (.iload 11, 2) := by decide +kernel
theorem dX7_times_271 : decode cX7_times 271 = .ok (.iconst 0, 1) := by decide +kernel
theorem dX7_times_272 : decode cX7_times 272 = .ok (.invokevirtual 125, 3) := by decide +kernel
theorem dX7_times_275 : decode cX7_times 275 = .ok (.lreturn, 1) := by decide +kernel
theorem dX7_times_276 : decode cX7_times 276 = .ok (.aload_n 0, 1) := by decide +kernel
theorem dX7_times_277 : decode cX7_times 277 = .ok (.iload_n 1, 1) := by decide +kernel
theorem dX7_times_278 : decode cX7_times 278 = .ok (.iload 6, 2) := by decide +kernel
theorem dX7_times_280 : decode cX7_times 280 = .ok (.lload 16, 2) := by decide +kernel
theorem dX7_times_282 : decode cX7_times 282 = .ok (.bipush 9, 2) := by decide +kernel
theorem dX7_times_284 : decode cX7_times 284 = .ok (.lshl, 1) := by decide +kernel
theorem dX7_times_285 : decode cX7_times 285 = .ok (.lload 18, 2) := by decide +kernel
theorem dX7_times_287 : decode cX7_times 287 = .ok (.bipush 45, 2) := by decide +kernel
theorem dX7_times_289 : decode cX7_times 289 = .ok (.lshr, 1) := by decide +kernel
theorem dX7_times_290 : decode cX7_times 290 = .ok (.lor, 1) := by decide +kernel
theorem dX7_times_291 : decode cX7_times 291 = .ok (.iload 11, 2) := by decide +kernel
theorem dX7_times_293 : decode cX7_times 293 = .ok (.bipush 45, 2) := by decide +kernel
theorem dX7_times_295 : decode cX7_times 295 = .ok (.iadd, 1) := by decide +kernel
theorem dX7_times_296 : decode cX7_times 296 = .ok (.lload 18, 2) := by decide +kernel
theorem dX7_times_298 : decode cX7_times 298 = .ok (.ldc2_w 131, 3) := by decide +kernel
theorem dX7_times_301 : decode cX7_times 301 = .ok (.land, 1) := by decide +kernel
theorem dX7_times_302 : decode cX7_times 302 = .ok (.lconst 0, 1) := by decide +kernel
theorem dX7_times_303 : decode cX7_times 303 = .ok (.lcmp, 1) := by decide +kernel
theorem dX7_times_304 : decode cX7_times 304 = .ok (.ifCond .eq 7, 3) := by decide +kernel
theorem dX7_times_307 : decode cX7_times 307 = .ok (.iconst 1, 1) := by decide +kernel
theorem dX7_times_308 : decode cX7_times 308 = .ok (.goto 4, 3) := by decide +kernel
theorem dX7_times_311 : decode cX7_times 311 = .ok (.iconst 0, 1) := by decide +kernel
theorem dX7_times_312 : decode cX7_times 312 = .ok (.invokevirtual 125, 3) := by decide +kernel
theorem dX7_times_315 : decode cX7_times 315 = .ok (.lreturn, 1) := by decide +kernel
theorem dX7_over_0 : decode cX7_over 0 = .ok (.aload_n 0, 1) := by decide +kernel
theorem dX7_over_1 : decode cX7_over 1 = .ok (.iload_n 1, 1) := by decide +kernel
theorem dX7_over_2 : decode cX7_over 2 = .ok (.lload_n 2, 1) := by decide +kernel
theorem dX7_over_3 : decode cX7_over 3 = .ok (.invokevirtual 98, 3) := by decide +kernel
theorem dX7_over_6 : decode cX7_over 6 = .ok (.ifCond .ne 13, 3) := by decide +kernel
theorem dX7_over_9 : decode cX7_over 9 = .ok (.aload_n 0, 1) := by decide +kernel
theorem dX7_over_10 : decode cX7_over 10 = .ok (.iload_n 1, 1) := by decide +kernel
theorem dX7_over_11 : decode cX7_over 11 = .ok (.lload 4, 2) := by decide +kernel
theorem dX7_over_13 : decode cX7_over 13 = .ok (.invokevirtual 98, 3) := by decide +kernel
theorem dX7_over_16 : decode cX7_over 16 = .ok (.ifCond .eq 10, 3) := by decide +kernel
theorem dX7_over_19 : decode cX7_over 19 = .ok (.aload_n 0, 1) := by decide +kernel
theorem dX7_over_20 : decode cX7_over 20 = .ok (.getfield 38, 3) := by decide +kernel
theorem dX7_over_23 : decode cX7_over 23 = .ok (.iload_n 1, 1) := by decide +kernel
theorem dX7_over_24 : decode cX7_over 24 = .ok (.laload, 1) := by decide +kernel
theorem dX7_over_25 : decode cX7_over 25 = .ok (.lreturn, 1) := by decide +kernel
theorem dX7_over_26 : decode cX7_over 26 = .ok (.aload_n 0, 1) := by decide +kernel
theorem dX7_over_27 : decode cX7_over 27 = .ok (.iload_n 1, 1) := by decide +kernel
theorem dX7_over_28 : decode cX7_over 28 = .ok (.lload_n 2, 1) := by decide +kernel
theorem dX7_over_29 : decode cX7_over 29 = .ok (.invokevirtual 108, 3) := by decide +kernel
theorem dX7_over_32 : decode cX7_over 32 = .ok (.aload_n 0, 1) := by decide +kernel
theorem dX7_over_33 : decode cX7_over 33 = .ok (.iload_n 1, 1) := by decide +kernel
theorem dX7_over_34 : decode cX7_over 34 = .ok (.lload 4, 2) := by decide +kernel
theorem dX7_over_36 : decode cX7_over 36 = .ok (.invokevirtual 108, 3) := by decide +kernel
theorem dX7_over_39 : decode cX7_over 39 = .ok (.if_icmp .eq 7, 3) := by decide +kernel
theorem dX7_over_42 : decode cX7_over 42 = .ok (.iconst 1, 1) := by decide +kernel
theorem dX7_over_43 : decode cX7_over 43 = .ok (.goto 4, 3) := by decide +kernel
theorem dX7_over_46 : decode cX7_over 46 = .ok (.iconst 0, 1) := by decide +kernel
theorem dX7_over_47 : decode cX7_over 47 = .ok (.istore 6, 2) := by decide +kernel
theorem dX7_over_49 : decode cX7_over 49 = .ok (.aload_n 0, 1) := by decide +kernel
theorem dX7_over_50 : decode cX7_over 50 = .ok (.iload_n 1, 1) := by decide +kernel
theorem dX7_over_51 : decode cX7_over 51 = .ok (.lload_n 2, 1) := by decide +kernel
theorem dX7_over_52 : decode cX7_over 52 = .ok (.invokevirtual 105, 3) := by decide +kernel
theorem dX7_over_55 : decode cX7_over 55 = .ok (.ifCond .eq 36, 3) := by decide +kernel
theorem dX7_over_58 : decode cX7_over 58 = .ok (.aload_n 0, 1) := by decide +kernel
theorem dX7_over_59 : decode cX7_over 59 = .ok (.iload_n 1, 1) := by decide +kernel
theorem dX7_over_60 : decode cX7_over 60 = .ok (.lload 4, 2) := by decide +kernel
theorem dX7_over_62 : decode cX7_over 62 = .ok (.invokevirtual 105, 3) := by decide +kernel
theorem dX7_over_65 : decode cX7_over 65 = .ok (.ifCond .eq 12, 3) := by decide +kernel
theorem dX7_over_68 : decode cX7_over 68 = .ok (.aload_n 0, 1) := by decide +kernel
theorem dX7_over_69 : decode cX7_over 69 = .ok (.getfield 38, 3) := by decide +kernel
theorem dX7_over_72 : decode cX7_over 72 = .ok (.iload_n 1, 1) := by decide +kernel
theorem dX7_over_73 : decode cX7_over 73 = .ok (.laload, 1) := by decide +kernel
theorem dX7_over_74 : decode cX7_over 74 = .ok (.goto 16, 3) := by decide +kernel
theorem dX7_over_77 : decode cX7_over 77 = .ok (.aload_n 0, 1) := by decide +kernel
theorem dX7_over_78 : decode cX7_over 78 = .ok (.iload_n 1, 1) := by decide +kernel
theorem dX7_over_79 : decode cX7_over 79 = .ok (.aload_n 0, 1) := by decide +kernel
theorem dX7_over_80 : decode cX7_over 80 = .ok (.getfield 31, 3) := by decide +kernel
theorem dX7_over_83 : decode cX7_over 83 = .ok (.iload_n 1, 1) := by decide +kernel
theorem dX7_over_84 : decode cX7_over 84 = .ok (.laload, 1) := by decide +kernel
theorem dX7_over_85 : decode cX7_over 85 = .ok (.iload 6, 2) := by decide +kernel
theorem dX7_over_87 : decode cX7_over 87 = .ok (.invokevirtual 111, 3) := by decide +kernel
theorem dX7_over_90 : decode cX7_over 90 = .ok (.lreturn, 1) := by decide +kernel
theorem dX7_over_91 : decode cX7_over 91 = .ok (.aload_n 0, 1) := by decide +kernel
theorem dX7_over_92 : decode cX7_over 92 = .ok (.iload_n 1, 1) := by decide +kernel
theorem dX7_over_93 : decode cX7_over 93 = .ok (.lload 4, 2) := by decide +kernel
theorem dX7_over_95 : decode cX7_over 95 = .ok (.invokevirtual 105, 3) := by decide +kernel
theorem dX7_over_98 : decode cX7_over 98 = .ok (.ifCond .eq 12, 3) := by decide +kernel
theorem dX7_over_101 : decode cX7_over 101 = .ok (.aload_n 0, 1) := by decide +kernel
theorem dX7_over_102 : decode cX7_over 102 = .ok (.iload_n 1, 1) := by decide +kernel
theorem dX7_over_103 : decode cX7_over 103 = .ok (.lconst 0, 1) := by decide +kernel
theorem dX7_over_104 : decode cX7_over 104 = .ok (.iload 6, 2) := by decide +kernel
theorem dX7_over_106 : decode cX7_over 106 = .ok (.invokevirtual 111, 3) := by decide +kernel
theorem dX7_over_109 : decode cX7_over 109 = .ok (.lreturn, 1) := by decide +kernel
theorem dX7_over_110 : decode cX7_over 110 = .ok (.aload_n 0, 1) := by decide +kernel
theorem dX7_over_111 : decode cX7_over 111 = .ok (.iload_n 1, 1) := by decide +kernel
theorem dX7_over_112 : decode cX7_over 112 = .ok (.lload 4, 2) := by decide +kernel
theorem dX7_over_114 : decode cX7_over 114 = .ok (.invokevirtual 102, 3) := by decide +kernel
theorem dX7_over_117 : decode cX7_over 117 = .ok (.ifCond .eq 35, 3) := by decide +kernel
theorem dX7_over_120 : decode cX7_over 120 = .ok (.aload_n 0, 1) := by decide +kernel
theorem dX7_over_121 : decode cX7_over 121 = .ok (.iload_n 1, 1) := by decide +kernel
theorem dX7_over_122 : decode cX7_over 122 = .ok (.lload_n 2, 1) := by decide +kernel
theorem dX7_over_123 : decode cX7_over 123 = .ok (.invokevirtual 102, 3) := by decide +kernel
theorem dX7_over_126 : decode cX7_over 126 = .ok (.ifCond .eq 12, 3) := by decide +kernel
theorem dX7_over_129 : decode cX7_over 129 = .ok (.aload_n 0, 1) := by decide +kernel
theorem dX7_over_130 : decode cX7_over 130 = .ok (.getfield 38, 3) := by decide +kernel
theorem dX7_over_133 : decode cX7_over 133 = .ok (.iload_n 1, 1) := by decide +kernel
theorem dX7_over_134 : decode cX7_over 134 = .ok (.laload, 1) := by decide +kernel
theorem dX7_over_135 : decode cX7_over 135 = .ok (.goto 16, 3) := by decide +kernel
theorem dX7_over_138 : decode cX7_over 138 = .ok (.aload_n 0, 1) := by decide +kernel
theorem dX7_over_139 : decode cX7_over 139 = .ok (.iload_n 1, 1) := by decide +kernel
theorem dX7_over_140 : decode cX7_over 140 = .ok (.aload_n 0, 1) := by decide +kernel
theorem dX7_over_141 : decode cX7_over 141 = .ok (.getfield 31, 3) := by decide +kernel
theorem dX7_over_144 : decode cX7_over 144 = .ok (.iload_n 1, 1) := by decide +kernel
theorem dX7_over_145 : decode cX7_over 145 = .ok (.laload, 1) := by decide +kernel
theorem dX7_over_146 : decode cX7_over 146 = .ok (.iload 6, 2) := by decide +kernel
theorem dX7_over_148 : decode cX7_over 148 = .ok (.invokevirtual 111, 3) := by decide +kernel
theorem dX7_over_151 : decode cX7_over 151 = .ok (.lreturn, 1) := by decide +kernel
theorem dX7_over_152 : decode cX7_over 152 = .ok (.aload_n 0, 1) := by decide +kernel
theorem dX7_over_153 : decode cX7_over 153 = .ok (.iload_n 1, 1) := by decide +kernel
theorem dX7_over_154 : decode cX7_over 154 = .ok (.lload_n 2, 1) := by decide +kernel
theorem dX7_over_155 : decode cX7_over 155 = .ok (.invokevirtual 102, 3) := by decide +kernel
theorem dX7_over_158 : decode cX7_over 158 = .ok (.ifCond .eq 12, 3) := by decide +kernel
theorem dX7_over_161 : decode cX7_over 161 = .ok (.aload_n 0, 1) := by decide +kernel
theorem dX7_over_162 : decode cX7_over 162 = .ok (.iload_n 1, 1) := by decide +kernel
theorem dX7_over_163 : decode cX7_over 163 = .ok (.lconst 0, 1) := by decide +kernel
theorem dX7_over_164 : decode cX7_over 164 = .ok (.iload 6, 2) := by decide +kernel
theorem dX7_over_166 : decode cX7_over 166 = .ok (.invokevirtual 111, 3) := by decide +kernel
theorem dX7_over_169 : decode cX7_over 169 = .ok (.lreturn, 1) := by decide +kernel
theorem dX7_over_170 : decode cX7_over 170 = .ok (.aload_n 0, 1) := by decide +kernel
theorem dX7_over_171 : decode cX7_over 171 = .ok (.iload_n 1, 1) := by decide +kernel
theorem dX7_over_172 : decode cX7_over 172 = .ok (.lload 4, 2) := by decide +kernel
theorem dX7_over_174 : decode cX7_over 174 = .ok (.invokevirtual 119, 3) := by decide +kernel
theorem dX7_over_177 : decode cX7_over 177 = .ok (.lstore 7, 2) := by decide +kernel
theorem dX7_over_179 : decode cX7_over 179 = .ok (.aload_n 0, 1) := by decide +kernel
theorem dX7_over_180 : decode cX7_over 180 = .ok (.iload_n 1, 1) := by decide +kernel
theorem dX7_over_181 : decode cX7_over 181 = .ok (.lload_n 2, 1) := by decide +kernel
theorem dX7_over_182 : decode cX7_over 182 = .ok (.invokevirtual 119, 3) := by decide +kernel
theorem dX7_over_185 : decode cX7_over 185 = .ok (.lstore 9, 2) := by decide +kernel
theorem dX7_over_187 : decode cX7_over 187 = .ok (.lconst 0, 1) := by decide +kernel
theorem dX7_over_188 : decode cX7_over 188 = .ok (.lstore 11, 2) := by decide +kernel
theorem dX7_over_190 : decode cX7_over 190 = .ok (.iconst 0, 1) := by decide +kernel
theorem dX7_over_191 : decode cX7_over 191 = .ok (.istore 13, 2) := by decide +kernel
theorem dX7_over_193 : decode cX7_over 193 = .ok (.iload 13, 2) := by decide +kernel
theorem dX7_over_195 : decode cX7_over 195 = .ok (.bipush 58, 2) := by decide +kernel
theorem dX7_over_197 : decode cX7_over 197 = .ok (.if_icmp .ge 42, 3) := by decide +kernel
theorem dX7_over_200 : decode cX7_over 200 = .ok (.lload 11, 2) := by decide +kernel
theorem dX7_over_202 : decode cX7_over 202 = .ok (.iconst 1, 1) := by decide +kernel
theorem dX7_over_203 : decode cX7_over 203 = .ok (.lshl, 1) := by decide +kernel
theorem dX7_over_204 : decode cX7_over 204 = .ok (.lstore 11, 2) := by decide +kernel
theorem dX7_over_206 : decode cX7_over 206 = .ok (.lload 9, 2) := by decide +kernel
theorem dX7_over_208 : decode cX7_over 208 = .ok (.lload 7, 2) := by decide +kernel
theorem dX7_over_210 : decode cX7_over 210 = .ok (.lcmp, 1) := by decide +kernel
theorem dX7_over_211 : decode cX7_over 211 = .ok (.ifCond .lt 16, 3) := by decide +kernel
theorem dX7_over_214 : decode cX7_over 214 = .ok (.lload 9, 2) := by decide +kernel
theorem dX7_over_216 : decode cX7_over 216 = .ok (.lload 7, 2) := by decide +kernel
theorem dX7_over_218 : decode cX7_over 218 = .ok (.lsub, 1) := by decide +kernel
theorem dX7_over_219 : decode cX7_over 219 = .ok (.lstore 9, 2) := by decide +kernel
theorem dX7_over_221 : decode cX7_over 221 = .ok (.lload 11, 2) := by decide +kernel
theorem dX7_over_223 : decode cX7_over 223 = .ok (.lconst 1, 1) := by decide +kernel
theorem dX7_over_224 : decode cX7_over 224 = .ok (.ladd, 1) := by decide +kernel
theorem dX7_over_225 : decode cX7_over 225 = .ok (.lstore 11, 2) := by decide +kernel
theorem dX7_over_227 : decode cX7_over 227 = .ok (.lload 9, 2) := by decide +kernel
theorem dX7_over_229 : decode cX7_over 229 = .ok (.iconst 1, 1) := by decide +kernel
theorem dX7_over_230 : decode cX7_over 230 = .ok (.lshl, 1) := by decide +kernel
theorem dX7_over_231 : decode cX7_over 231 = .ok (.lstore 9, 2) := by decide +kernel
theorem dX7_over_233 : decode cX7_over 233 = .ok (.iinc 13 1, 3) := by decide +kernel
theorem dX7_over_236 : decode cX7_over 236 = .ok (.goto (-43), 3) := by decide +kernel
theorem dX7_over_239 : decode cX7_over 239 = .ok (.aload_n 0, 1) := by decide +kernel
theorem dX7_over_240 : decode cX7_over 240 = .ok (.iload_n 1, 1) := by decide +kernel
theorem dX7_over_241 : decode cX7_over 241 = .ok (.iload 6, 2) := by decide +kernel
theorem dX7_over_243 : decode cX7_over 243 = .ok (.lload 11, 2) := by decide +kernel
theorem dX7_over_245 : decode cX7_over 245 = .ok (.aload_n 0, 1) := by decide +kernel
theorem dX7_over_246 : decode cX7_over 246 = .ok (.iload_n 1, 1) := by decide +kernel
theorem dX7_over_247 : decode cX7_over 247 = .ok (.lload_n 2, 1) := by decide +kernel
theorem dX7_over_248 : decode cX7_over 248 = .ok (.invokevirtual 122, 3) := by decide +kernel
theorem dX7_over_251 : decode cX7_over 251 = .ok (.aload_n 0, 1) := by decide +kernel
theorem dX7_over_252 : decode cX7_over 252 = .ok (.iload_n 1, 1) := by decide +kernel
theorem dX7_over_253 : decode cX7_over 253 = .ok (.lload 4, 2) := by decide +kernel
theorem dX7_over_255 : decode cX7_over 255 = .ok (.invokevirtual 122, 3) := by decide +kernel
theorem dX7_over_258 : decode cX7_over 258 = .ok (.isub, 1) := by decide +kernel
theorem dX7_over_259 : decode cX7_over 259 = .ok (.bipush 57, 2) := by decide +kernel
theorem dX7_over_261 : decode cX7_over 261 = .ok (.isub, 1) := by decide +kernel
theorem dX7_over_262 : decode cX7_over 262 = .ok (.lload 9, 2) := by decide +kernel
theorem dX7_over_264 : decode cX7_over 264 = .ok (.lconst 0, 1) := by decide +kernel
theorem dX7_over_265 : decode cX7_over 265 = .ok (.lcmp, 1) := by decide +kernel
theorem dX7_over_266 : decode cX7_over 266 = .ok (.ifCond .le 7, 3) := by decide +kernel
theorem dX7_over_269 : decode cX7_over 269 = .ok (.iconst 1, 1) := by decide +kernel
theorem dX7_over_270 : decode cX7_over 270 = .ok (.goto 4, 3) := by decide +kernel
theorem dX7_over_273 : decode cX7_over 273 = .ok (.iconst 0, 1) := by decide +kernel
theorem dX7_over_274 : decode cX7_over 274 = .ok (.invokevirtual 125, 3) := by decide +kernel
theorem dX7_over_277 : decode cX7_over 277 = .ok (.lreturn, 1) := by decide +kernel
theorem dX7_left_0 : decode cX7_left 0 = .ok (.aload_n 0, 1) := by decide +kernel
theorem dX7_left_1 : decode cX7_left 1 = .ok (.iload_n 1, 1) := by decide +kernel
theorem dX7_left_2 : decode cX7_left 2 = .ok (.lload_n 2, 1) := by decide +kernel
theorem dX7_left_3 : decode cX7_left 3 = .ok (.invokevirtual 98, 3) := by decide +kernel
theorem dX7_left_6 : decode cX7_left 6 = .ok (.ifCond .ne 32, 3) := by decide +kernel
theorem dX7_left_9 : decode cX7_left 9 = .ok (.aload_n 0, 1) := by decide +kernel
theorem dX7_left_10 : decode cX7_left 10 = .ok (.iload_n 1, 1) := by decide +kernel
theorem dX7_left_11 : decode cX7_left 11 = .ok (.lload 4, 2) := by decide +kernel
theorem dX7_left_13 : decode cX7_left 13 = .ok (.invokevirtual 98, 3) := by decide +kernel
theorem dX7_left_16 : decode cX7_left 16 = .ok (.ifCond .ne 22, 3) := by decide +kernel
theorem dX7_left_19 : decode cX7_left 19 = .ok (.aload_n 0, 1) := by decide +kernel
theorem dX7_left_20 : decode cX7_left 20 = .ok (.iload_n 1, 1) := by decide +kernel
theorem dX7_left_21 : decode cX7_left 21 = .ok (.lload_n 2, 1) := by decide +kernel
theorem dX7_left_22 : decode cX7_left 22 = .ok (.invokevirtual 105, 3) := by decide +kernel
theorem dX7_left_25 : decode cX7_left 25 = .ok (.ifCond .ne 13, 3) := by decide +kernel
theorem dX7_left_28 : decode cX7_left 28 = .ok (.aload_n 0, 1) := by decide +kernel
theorem dX7_left_29 : decode cX7_left 29 = .ok (.iload_n 1, 1) := by decide +kernel
theorem dX7_left_30 : decode cX7_left 30 = .ok (.lload 4, 2) := by decide +kernel
theorem dX7_left_32 : decode cX7_left 32 = .ok (.invokevirtual 102, 3) := by decide +kernel
theorem dX7_left_35 : decode cX7_left 35 = .ok (.ifCond .eq 10, 3) := by decide +kernel
theorem dX7_left_38 : decode cX7_left 38 = .ok (.aload_n 0, 1) := by decide +kernel
theorem dX7_left_39 : decode cX7_left 39 = .ok (.getfield 38, 3) := by decide +kernel
theorem dX7_left_42 : decode cX7_left 42 = .ok (.iload_n 1, 1) := by decide +kernel
theorem dX7_left_43 : decode cX7_left 43 = .ok (.laload, 1) := by decide +kernel
theorem dX7_left_44 : decode cX7_left 44 = .ok (.lreturn, 1) := by decide +kernel
theorem dX7_left_45 : decode cX7_left 45 = .ok (.aload_n 0, 1) := by decide +kernel
theorem dX7_left_46 : decode cX7_left 46 = .ok (.iload_n 1, 1) := by decide +kernel
theorem dX7_left_47 : decode cX7_left 47 = .ok (.lload_n 2, 1) := by decide +kernel
theorem dX7_left_48 : decode cX7_left 48 = .ok (.invokevirtual 94, 3) := by decide +kernel
theorem dX7_left_51 : decode cX7_left 51 = .ok (.aload_n 0, 1) := by decide +kernel
theorem dX7_left_52 : decode cX7_left 52 = .ok (.iload_n 1, 1) := by decide +kernel
theorem dX7_left_53 : decode cX7_left 53 = .ok (.lload 4, 2) := by decide +kernel
theorem dX7_left_55 : decode cX7_left 55 = .ok (.invokevirtual 94, 3) := by decide +kernel
theorem dX7_left_58 : decode cX7_left 58 = .ok (.lcmp, 1) := by decide +kernel
theorem dX7_left_59 : decode cX7_left 59 = .ok (.ifCond .ge 5, 3) := by decide +kernel
theorem dX7_left_62 : decode cX7_left 62 = .ok (.lload_n 2, 1) := by decide +kernel
theorem dX7_left_63 : decode cX7_left 63 = .ok (.lreturn, 1) := by decide +kernel
theorem dX7_left_64 : decode cX7_left 64 = .ok (.aload_n 0, 1) := by decide +kernel
theorem dX7_left_65 : decode cX7_left 65 = .ok (.iload_n 1, 1) := by decide +kernel
theorem dX7_left_66 : decode cX7_left 66 = .ok (.lload 4, 2) := by decide +kernel
theorem dX7_left_68 : decode cX7_left 68 = .ok (.invokevirtual 119, 3) := by decide +kernel
theorem dX7_left_71 : decode cX7_left 71 = .ok (.lstore 6, 2) := by decide +kernel
theorem dX7_left_73 : decode cX7_left 73 = .ok (.aload_n 0, 1) := by decide +kernel
theorem dX7_left_74 : decode cX7_left 74 = .ok (.iload_n 1, 1) := by decide +kernel
theorem dX7_left_75 : decode cX7_left 75 = .ok (.lload_n 2, 1) := by decide +kernel
theorem dX7_left_76 : decode cX7_left 76 = .ok (.invokevirtual 119, 3) := by decide +kernel
theorem dX7_left_79 : decode cX7_left 79 = .ok (.lload 6, 2) := by decide +kernel
theorem dX7_left_81 : decode cX7_left 81 = .ok (.lrem, 1) := by decide +kernel
theorem dX7_left_82 : decode cX7_left 82 = .ok (.lstore 8, 2) := by decide +kernel
theorem dX7_left_84 : decode cX7_left 84 = .ok (.aload_n 0, 1) := by decide +kernel
theorem dX7_left_85 : decode cX7_left 85 = .ok (.iload_n 1, 1) := by decide +kernel
theorem dX7_left_86 : decode cX7_left 86 = .ok (.lload_n 2, 1) := by decide +kernel
theorem dX7_left_87 : decode cX7_left 87 = .ok (.invokevirtual 122, 3) := by decide +kernel
theorem dX7_left_90 : decode cX7_left 90 = .ok (.aload_n 0, 1) := by decide +kernel
theorem dX7_left_91 : decode cX7_left 91 = .ok (.iload_n 1, 1) := by decide +kernel
theorem dX7_left_92 : decode cX7_left 92 = .ok (.lload 4, 2) := by decide +kernel
theorem dX7_left_94 : decode cX7_left 94 = .ok (.invokevirtual 122, 3) := by decide +kernel
theorem dX7_left_97 : decode cX7_left 97 = .ok (.isub, 1) := by decide +kernel
theorem dX7_left_98 : decode cX7_left 98 = .ok (.istore 10, 2) := by decide +kernel
theorem dX7_left_100 : decode cX7_left 100 = .ok (.iload 10, 2) := by decide +kernel
theorem dX7_left_102 : decode cX7_left 102 = .ok (.ifCond .le 18, 3) := by decide +kernel
theorem dX7_left_105 : decode cX7_left 105 = .ok (.lload 8, 2) := by decide +kernel
theorem dX7_left_107 : decode cX7_left 107 = .ok (.iconst 1, 1) := by decide +kernel
theorem dX7_left_108 : decode cX7_left 108 = .ok (.lshl, 1) := by decide +kernel
theorem dX7_left_109 : decode cX7_left 109 = .ok (.lload 6, 2) := by decide +kernel
theorem dX7_left_111 : decode cX7_left 111 = .ok (.lrem, 1) := by decide +kernel
theorem dX7_left_112 : decode cX7_left 112 = .ok (.lstore 8, 2) := by decide +kernel
theorem dX7_left_114 : decode cX7_left 114 = .ok (.iinc 10 (-1), 3) := by decide +kernel
theorem dX7_left_117 : decode cX7_left 117 = .ok (.goto (-17), 3) := by decide +kernel
theorem dX7_left_120 : decode cX7_left 120 = .ok (.lload 8, 2) := by decide +kernel
theorem dX7_left_122 : decode cX7_left 122 = .ok (.lconst 0, 1) := by decide +kernel
theorem dX7_left_123 : decode cX7_left 123 = .ok (.lcmp, 1) := by decide +kernel
theorem dX7_left_124 : decode cX7_left 124 = .ok (.ifCond .ne 18, 3) := by decide +kernel
theorem dX7_left_127 : decode cX7_left 127 = .ok (.aload_n 0, 1) := by decide +kernel
theorem dX7_left_128 : decode cX7_left 128 = .ok (.iload_n 1, 1) := by decide +kernel
theorem dX7_left_129 : decode cX7_left 129 = .ok (.lconst 0, 1) := by decide +kernel
theorem dX7_left_130 : decode cX7_left 130 = .ok (.aload_n 0, 1) := by decide +kernel
theorem dX7_left_131 : decode cX7_left 131 = .ok (.iload_n 1, 1) := by decide +kernel
theorem dX7_left_132 : decode cX7_left 132 = .ok (.lload_n 2, 1) := by decide +kernel
theorem dX7_left_133 : decode cX7_left 133 = .ok (.invokevirtual 108, 3) := by decide +kernel
theorem dX7_left_136 : decode cX7_left 136 = .ok (.invokevirtual 111, 3) := by decide +kernel
theorem dX7_left_139 : decode cX7_left 139 = .ok (.goto 24, 3) := by decide +kernel
theorem dX7_left_142 : decode cX7_left 142 = .ok (.aload_n 0, 1) := by decide +kernel
theorem dX7_left_143 : decode cX7_left 143 = .ok (.iload_n 1, 1) := by decide +kernel
theorem dX7_left_144 : decode cX7_left 144 = .ok (.aload_n 0, 1) := by decide +kernel
theorem dX7_left_145 : decode cX7_left 145 = .ok (.iload_n 1, 1) := by decide +kernel
theorem dX7_left_146 : decode cX7_left 146 = .ok (.lload_n 2, 1) := by decide +kernel
theorem dX7_left_147 : decode cX7_left 147 = .ok (.invokevirtual 108, 3) := by decide +kernel
theorem dX7_left_150 : decode cX7_left 150 = .ok (.lload 8, 2) := by decide +kernel
theorem dX7_left_152 : decode cX7_left 152 = .ok (.aload_n 0, 1) := by decide +kernel
theorem dX7_left_153 : decode cX7_left 153 = .ok (.iload_n 1, 1) := by decide +kernel
theorem dX7_left_154 : decode cX7_left 154 = .ok (.lload 4, 2) := by decide +kernel
theorem dX7_left_156 : decode cX7_left 156 = .ok (.invokevirtual 122, 3) := by decide +kernel
theorem dX7_left_159 : decode cX7_left 159 = .ok (.iconst 0, 1) := by decide +kernel
theorem dX7_left_160 : decode cX7_left 160 = .ok (.invokevirtual 125, 3) := by decide +kernel
theorem dX7_left_163 : decode cX7_left 163 = .ok (.lreturn, 1) := by decide +kernel
theorem dX7_wholeOf_0 : decode cX7_wholeOf 0 = .ok (.aload_n 0, 1) := by decide +kernel
theorem dX7_wholeOf_1 : decode cX7_wholeOf 1 = .ok (.iload_n 1, 1) := by decide +kernel
theorem dX7_wholeOf_2 : decode cX7_wholeOf 2 = .ok (.lload_n 2, 1) := by decide +kernel
theorem dX7_wholeOf_3 : decode cX7_wholeOf 3 = .ok (.invokevirtual 98, 3) := by decide +kernel
theorem dX7_wholeOf_6 : decode cX7_wholeOf 6 = .ok (.ifCond .ne 30, 3) := by decide +kernel
theorem dX7_wholeOf_9 : decode cX7_wholeOf 9 = .ok (.aload_n 0, 1) := by decide +kernel
theorem dX7_wholeOf_10 : decode cX7_wholeOf 10 = .ok (.iload_n 1, 1) := by decide +kernel
theorem dX7_wholeOf_11 : decode cX7_wholeOf 11 = .ok (.lload_n 2, 1) := by decide +kernel
theorem dX7_wholeOf_12 : decode cX7_wholeOf 12 = .ok (.invokevirtual 105, 3) := by decide +kernel
theorem dX7_wholeOf_15 : decode cX7_wholeOf 15 = .ok (.ifCond .ne 21, 3) := by decide +kernel
theorem dX7_wholeOf_18 : decode cX7_wholeOf 18 = .ok (.aload_n 0, 1) := by decide +kernel
theorem dX7_wholeOf_19 : decode cX7_wholeOf 19 = .ok (.iload_n 1, 1) := by decide +kernel
theorem dX7_wholeOf_20 : decode cX7_wholeOf 20 = .ok (.lload_n 2, 1) := by decide +kernel
theorem dX7_wholeOf_21 : decode cX7_wholeOf 21 = .ok (.invokevirtual 102, 3) := by decide +kernel
theorem dX7_wholeOf_24 : decode cX7_wholeOf 24 = .ok (.ifCond .ne 12, 3) := by decide +kernel
theorem dX7_wholeOf_27 : decode cX7_wholeOf 27 = .ok (.aload_n 0, 1) := by decide +kernel
theorem dX7_wholeOf_28 : decode cX7_wholeOf 28 = .ok (.iload_n 1, 1) := by decide +kernel
theorem dX7_wholeOf_29 : decode cX7_wholeOf 29 = .ok (.lload_n 2, 1) := by decide +kernel
theorem dX7_wholeOf_30 : decode cX7_wholeOf 30 = .ok (.invokevirtual 122, 3) := by decide +kernel
theorem dX7_wholeOf_33 : decode cX7_wholeOf 33 = .ok (.ifCond .lt 5, 3) := by decide +kernel
theorem dX7_wholeOf_36 : decode cX7_wholeOf 36 = .ok (.lload_n 2, 1) := by decide +kernel
theorem dX7_wholeOf_37 : decode cX7_wholeOf 37 = .ok (.lreturn, 1) := by decide +kernel
theorem dX7_wholeOf_38 : decode cX7_wholeOf 38 = .ok (.aload_n 0, 1) := by decide +kernel
theorem dX7_wholeOf_39 : decode cX7_wholeOf 39 = .ok (.iload_n 1, 1) := by decide +kernel
theorem dX7_wholeOf_40 : decode cX7_wholeOf 40 = .ok (.lload_n 2, 1) := by decide +kernel
theorem dX7_wholeOf_41 : decode cX7_wholeOf 41 = .ok (.invokevirtual 108, 3) := by decide +kernel
theorem dX7_wholeOf_44 : decode cX7_wholeOf 44 = .ok (.istore 5, 2) := by decide +kernel
theorem dX7_wholeOf_46 : decode cX7_wholeOf 46 = .ok (.aload_n 0, 1) := by decide +kernel
theorem dX7_wholeOf_47 : decode cX7_wholeOf 47 = .ok (.iload_n 1, 1) := by decide +kernel
theorem dX7_wholeOf_48 : decode cX7_wholeOf 48 = .ok (.lload_n 2, 1) := by decide +kernel
theorem dX7_wholeOf_49 : decode cX7_wholeOf 49 = .ok (.invokevirtual 119, 3) := by decide +kernel
theorem dX7_wholeOf_52 : decode cX7_wholeOf 52 = .ok (.lstore 6, 2) := by decide +kernel
theorem dX7_wholeOf_54 : decode cX7_wholeOf 54 = .ok (.aload_n 0, 1) := by decide +kernel
theorem dX7_wholeOf_55 : decode cX7_wholeOf 55 = .ok (.iload_n 1, 1) := by decide +kernel
theorem dX7_wholeOf_56 : decode cX7_wholeOf 56 = .ok (.lload_n 2, 1) := by decide +kernel
theorem dX7_wholeOf_57 : decode cX7_wholeOf 57 = .ok (.invokevirtual 122, 3) := by decide +kernel
theorem dX7_wholeOf_60 : decode cX7_wholeOf 60 = .ok (.ineg, 1) := by decide +kernel
theorem dX7_wholeOf_61 : decode cX7_wholeOf 61 = .ok (.istore 8, 2) := by decide +kernel
theorem dX7_wholeOf_63 : decode cX7_wholeOf 63 = .ok (.iload 8, 2) := by decide +kernel
theorem dX7_wholeOf_65 : decode cX7_wholeOf 65 = .ok (.bipush 62, 2) := by decide +kernel
theorem dX7_wholeOf_67 : decode cX7_wholeOf 67 = .ok (.if_icmp .le 7, 3) := by decide +kernel
theorem dX7_wholeOf_70 : decode cX7_wholeOf 70 = .ok (.lconst 0, 1) := by decide +kernel
theorem dX7_wholeOf_71 : decode cX7_wholeOf 71 = .ok (.goto 8, 3) := by decide +kernel
theorem dX7_wholeOf_74 : decode cX7_wholeOf 74 = .ok (.lload 6, 2) := by decide +kernel
theorem dX7_wholeOf_76 : decode cX7_wholeOf 76 = .ok (.iload 8, 2) := by decide +kernel
theorem dX7_wholeOf_78 : decode cX7_wholeOf 78 = .ok (.lshr, 1) := by decide +kernel
theorem dX7_wholeOf_79 : decode cX7_wholeOf 79 = .ok (.lstore 9, 2) := by decide +kernel
theorem dX7_wholeOf_81 : decode cX7_wholeOf 81 = .ok (.iload 8, 2) := by decide +kernel
theorem dX7_wholeOf_83 : decode cX7_wholeOf 83 = .ok (.bipush 62, 2) := by decide +kernel
theorem dX7_wholeOf_85 : decode cX7_wholeOf 85 = .ok (.if_icmp .gt 14, 3) := by decide +kernel
theorem dX7_wholeOf_88 : decode cX7_wholeOf 88 = .ok (.lload 9, 2) := by decide +kernel
theorem dX7_wholeOf_90 : decode cX7_wholeOf 90 = .ok (.iload 8, 2) := by decide +kernel
theorem dX7_wholeOf_92 : decode cX7_wholeOf 92 = .ok (.lshl, 1) := by decide +kernel
theorem dX7_wholeOf_93 : decode cX7_wholeOf 93 = .ok (.lload 6, 2) := by decide +kernel
theorem dX7_wholeOf_95 : decode cX7_wholeOf 95 = .ok (.lcmp, 1) := by decide +kernel
theorem dX7_wholeOf_96 : decode cX7_wholeOf 96 = .ok (.ifCond .eq 7, 3) := by decide +kernel
theorem dX7_wholeOf_99 : decode cX7_wholeOf 99 = .ok (.iconst 1, 1) := by decide +kernel
theorem dX7_wholeOf_100 : decode cX7_wholeOf 100 = .ok (.goto 4, 3) := by decide +kernel
theorem dX7_wholeOf_103 : decode cX7_wholeOf 103 = .ok (.iconst 0, 1) := by decide +kernel
theorem dX7_wholeOf_104 : decode cX7_wholeOf 104 = .ok (.istore 11, 2) := by decide +kernel
theorem dX7_wholeOf_106 : decode cX7_wholeOf 106 = .ok (.iload 11, 2) := by decide +kernel
theorem dX7_wholeOf_108 : decode cX7_wholeOf 108 = .ok (.ifCond .eq 29, 3) := by decide +kernel
theorem dX7_wholeOf_111 : decode cX7_wholeOf 111 = .ok (.iload 4, 2) := by decide +kernel
theorem dX7_wholeOf_113 : decode cX7_wholeOf 113 = .ok (.iconst 3, 1) := by decide +kernel
theorem dX7_wholeOf_114 : decode cX7_wholeOf 114 = .ok (.if_icmp .ne 8, 3) := by decide +kernel
theorem dX7_wholeOf_117 : decode cX7_wholeOf 117 = .ok (.iload 5, 2) := by decide +kernel
theorem dX7_wholeOf_119 : decode cX7_wholeOf 119 = .ok (.ifCond .ne 14, 3) := by decide +kernel
theorem dX7_wholeOf_122 : decode cX7_wholeOf 122 = .ok (.iload 4, 2) := by decide +kernel
theorem dX7_wholeOf_124 : decode cX7_wholeOf 124 = .ok (.iconst 4, 1) := by decide +kernel
theorem dX7_wholeOf_125 : decode cX7_wholeOf 125 = .ok (.if_icmp .ne 12, 3) := by decide +kernel
theorem dX7_wholeOf_128 : decode cX7_wholeOf 128 = .ok (.iload 5, 2) := by decide +kernel
theorem dX7_wholeOf_130 : decode cX7_wholeOf 130 = .ok (.ifCond .ne 7, 3) := by decide +kernel
theorem dX7_wholeOf_133 : decode cX7_wholeOf 133 = .ok (.iconst 1, 1) := by decide +kernel
theorem dX7_wholeOf_134 : decode cX7_wholeOf 134 = .ok (.goto 4, 3) := by decide +kernel
theorem dX7_wholeOf_137 : decode cX7_wholeOf 137 = .ok (.iconst 0, 1) := by decide +kernel
theorem dX7_wholeOf_138 : decode cX7_wholeOf 138 = .ok (.istore 12, 2) := by decide +kernel
theorem dX7_wholeOf_140 : decode cX7_wholeOf 140 = .ok (.iload 4, 2) := by decide +kernel
theorem dX7_wholeOf_142 : decode cX7_wholeOf 142 = .ok (.iconst 5, 1) := by decide +kernel
theorem dX7_wholeOf_143 : decode cX7_wholeOf 143 = .ok (.if_icmp .ne 60, 3) := by decide +kernel
theorem dX7_wholeOf_146 : decode cX7_wholeOf 146 = .ok (.iload 8, 2) := by decide +kernel
theorem dX7_wholeOf_148 : decode cX7_wholeOf 148 = .ok (.bipush 62, 2) := by decide +kernel
theorem dX7_wholeOf_150 : decode cX7_wholeOf 150 = .ok (.if_icmp .gt 53, 3) := by decide +kernel
theorem dX7_wholeOf_153 : decode cX7_wholeOf 153 = .ok (.lload 6, 2) := by decide +kernel
theorem dX7_wholeOf_155 : decode cX7_wholeOf 155 = .ok (.lload 9, 2) := by decide +kernel
theorem dX7_wholeOf_157 : decode cX7_wholeOf 157 = .ok (.iload 8, 2) := by decide +kernel
theorem dX7_wholeOf_159 : decode cX7_wholeOf 159 = .ok (.lshl, 1) := by decide +kernel
theorem dX7_wholeOf_160 : decode cX7_wholeOf 160 = .ok (.lsub, 1) := by decide +kernel
theorem dX7_wholeOf_161 : decode cX7_wholeOf 161 = .ok (.lstore 13, 2) := by decide +kernel
theorem dX7_wholeOf_163 : decode cX7_wholeOf 163 = .ok (.lconst 1, 1) := by decide +kernel
theorem dX7_wholeOf_164 : decode cX7_wholeOf 164 = .ok (.iload 8, 2) := by decide +kernel
theorem dX7_wholeOf_166 : decode cX7_wholeOf 166 = .ok (.iconst 1, 1) := by decide +kernel
theorem dX7_wholeOf_167 : decode cX7_wholeOf 167 = .ok (.isub, 1) := by decide +kernel
theorem dX7_wholeOf_168 : decode cX7_wholeOf 168 = .ok (.lshl, 1) := by decide +kernel
theorem dX7_wholeOf_169 : decode cX7_wholeOf 169 = .ok (.lstore 15, 2) := by decide +kernel
theorem dX7_wholeOf_171 : decode cX7_wholeOf 171 = .ok (.lload 13, 2) := by decide +kernel
theorem dX7_wholeOf_173 : decode cX7_wholeOf 173 = .ok (.lload 15, 2) := by decide +kernel
theorem dX7_wholeOf_175 : decode cX7_wholeOf 175 = .ok (.lcmp, 1) := by decide +kernel
theorem dX7_wholeOf_176 : decode cX7_wholeOf 176 = .ok (.ifCond .gt 20, 3) := by decide +kernel
theorem dX7_wholeOf_179 : decode cX7_wholeOf 179 = .ok (.lload 13, 2) := by decide +kernel
theorem dX7_wholeOf_181 : decode cX7_wholeOf 181 = .ok (.lload 15, 2) := by decide +kernel
theorem dX7_wholeOf_183 : decode cX7_wholeOf 183 = .ok (.lcmp, 1) := by decide +kernel
theorem dX7_wholeOf_184 : decode cX7_wholeOf 184 = .ok (.ifCond .ne 16, 3) := by decide +kernel
theorem dX7_wholeOf_187 : decode cX7_wholeOf 187 = .ok (.lload 9, 2) := by decide +kernel
theorem dX7_wholeOf_189 : decode cX7_wholeOf 189 = .ok (.lconst 1, 1) := by decide +kernel
theorem dX7_wholeOf_190 : decode cX7_wholeOf 190 = .ok (.land, 1) := by decide +kernel
theorem dX7_wholeOf_191 : decode cX7_wholeOf 191 = .ok (.lconst 1, 1) := by decide +kernel
theorem dX7_wholeOf_192 : decode cX7_wholeOf 192 = .ok (.lcmp, 1) := by decide +kernel
theorem dX7_wholeOf_193 : decode cX7_wholeOf 193 = .ok (.ifCond .ne 7, 3) := by decide +kernel
theorem dX7_wholeOf_196 : decode cX7_wholeOf 196 = .ok (.iconst 1, 1) := by decide +kernel
theorem dX7_wholeOf_197 : decode cX7_wholeOf 197 = .ok (.goto 4, 3) := by decide +kernel
theorem dX7_wholeOf_200 : decode cX7_wholeOf 200 = .ok (.iconst 0, 1) := by decide +kernel
theorem dX7_wholeOf_201 : decode cX7_wholeOf 201 = .ok (.istore 12, 2) := by decide +kernel
theorem dX7_wholeOf_203 : decode cX7_wholeOf 203 = .ok (.iload 12, 2) := by decide +kernel
theorem dX7_wholeOf_205 : decode cX7_wholeOf 205 = .ok (.ifCond .eq 9, 3) := by decide +kernel
theorem dX7_wholeOf_208 : decode cX7_wholeOf 208 = .ok (.lload 9, 2) := by decide +kernel
theorem dX7_wholeOf_210 : decode cX7_wholeOf 210 = .ok (.lconst 1, 1) := by decide +kernel
theorem dX7_wholeOf_211 : decode cX7_wholeOf 211 = .ok (.ladd, 1) := by decide +kernel
theorem dX7_wholeOf_212 : decode cX7_wholeOf 212 = .ok (.lstore 9, 2) := by decide +kernel
theorem dX7_wholeOf_214 : decode cX7_wholeOf 214 = .ok (.lload 9, 2) := by decide +kernel
theorem dX7_wholeOf_216 : decode cX7_wholeOf 216 = .ok (.lconst 0, 1) := by decide +kernel
theorem dX7_wholeOf_217 : decode cX7_wholeOf 217 = .ok (.lcmp, 1) := by decide +kernel
theorem dX7_wholeOf_218 : decode cX7_wholeOf 218 = .ok (.ifCond .ne 14, 3) := by decide +kernel
theorem dX7_wholeOf_221 : decode cX7_wholeOf 221 = .ok (.aload_n 0, 1) := by decide +kernel
theorem dX7_wholeOf_222 : decode cX7_wholeOf 222 = .ok (.iload_n 1, 1) := by decide +kernel
theorem dX7_wholeOf_223 : decode cX7_wholeOf 223 = .ok (.lconst 0, 1) := by decide +kernel
theorem dX7_wholeOf_224 : decode cX7_wholeOf 224 = .ok (.iload 5, 2) := by decide +kernel
theorem dX7_wholeOf_226 : decode cX7_wholeOf 226 = .ok (.invokevirtual 111, 3) := by decide +kernel
theorem dX7_wholeOf_229 : decode cX7_wholeOf 229 = .ok (.goto 14, 3) := by decide +kernel
theorem dX7_wholeOf_232 : decode cX7_wholeOf 232 = .ok (.aload_n 0, 1) := by decide +kernel
theorem dX7_wholeOf_233 : decode cX7_wholeOf 233 = .ok (.iload_n 1, 1) := by decide +kernel
theorem dX7_wholeOf_234 : decode cX7_wholeOf 234 = .ok (.iload 5, 2) := by decide +kernel
theorem dX7_wholeOf_236 : decode cX7_wholeOf 236 = .ok (.lload 9, 2) := by decide +kernel
theorem dX7_wholeOf_238 : decode cX7_wholeOf 238 = .ok (.iconst 0, 1) := by decide +kernel
theorem dX7_wholeOf_239 : decode cX7_wholeOf 239 = .ok (.iconst 0, 1) := by decide +kernel
theorem dX7_wholeOf_240 : decode cX7_wholeOf 240 = .ok (.invokevirtual 125, 3) := by decide +kernel
theorem dX7_wholeOf_243 : decode cX7_wholeOf 243 = .ok (.lreturn, 1) := by decide +kernel
theorem dX7_lesser_0 : decode cX7_lesser 0 = .ok (.aload_n 0, 1) := by decide +kernel
theorem dX7_lesser_1 : decode cX7_lesser 1 = .ok (.iload_n 1, 1) := by decide +kernel
theorem dX7_lesser_2 : decode cX7_lesser 2 = .ok (.lload_n 2, 1) := by decide +kernel
theorem dX7_lesser_3 : decode cX7_lesser 3 = .ok (.invokevirtual 98, 3) := by decide +kernel
theorem dX7_lesser_6 : decode cX7_lesser 6 = .ok (.ifCond .ne 13, 3) := by decide +kernel
theorem dX7_lesser_9 : decode cX7_lesser 9 = .ok (.aload_n 0, 1) := by decide +kernel
theorem dX7_lesser_10 : decode cX7_lesser 10 = .ok (.iload_n 1, 1) := by decide +kernel
theorem dX7_lesser_11 : decode cX7_lesser 11 = .ok (.lload 4, 2) := by decide +kernel
theorem dX7_lesser_13 : decode cX7_lesser 13 = .ok (.invokevirtual 98, 3) := by decide +kernel
theorem dX7_lesser_16 : decode cX7_lesser 16 = .ok (.ifCond .eq 10, 3) := by decide +kernel
theorem dX7_lesser_19 : decode cX7_lesser 19 = .ok (.aload_n 0, 1) := by decide +kernel
theorem dX7_lesser_20 : decode cX7_lesser 20 = .ok (.getfield 38, 3) := by decide +kernel
theorem dX7_lesser_23 : decode cX7_lesser 23 = .ok (.iload_n 1, 1) := by decide +kernel
theorem dX7_lesser_24 : decode cX7_lesser 24 = .ok (.laload, 1) := by decide +kernel
theorem dX7_lesser_25 : decode cX7_lesser 25 = .ok (.lreturn, 1) := by decide +kernel
theorem dX7_lesser_26 : decode cX7_lesser 26 = .ok (.aload_n 0, 1) := by decide +kernel
theorem dX7_lesser_27 : decode cX7_lesser 27 = .ok (.iload_n 1, 1) := by decide +kernel
theorem dX7_lesser_28 : decode cX7_lesser 28 = .ok (.lload_n 2, 1) := by decide +kernel
theorem dX7_lesser_29 : decode cX7_lesser 29 = .ok (.invokevirtual 133, 3) := by decide +kernel
theorem dX7_lesser_32 : decode cX7_lesser 32 = .ok (.aload_n 0, 1) := by decide +kernel
theorem dX7_lesser_33 : decode cX7_lesser 33 = .ok (.iload_n 1, 1) := by decide +kernel
theorem dX7_lesser_34 : decode cX7_lesser 34 = .ok (.lload 4, 2) := by decide +kernel
theorem dX7_lesser_36 : decode cX7_lesser 36 = .ok (.invokevirtual 133, 3) := by decide +kernel
theorem dX7_lesser_39 : decode cX7_lesser 39 = .ok (.lcmp, 1) := by decide +kernel
theorem dX7_lesser_40 : decode cX7_lesser 40 = .ok (.ifCond .ne 8, 3) := by decide +kernel
theorem dX7_lesser_43 : decode cX7_lesser 43 = .ok (.lload_n 2, 1) := by decide +kernel
theorem dX7_lesser_44 : decode cX7_lesser 44 = .ok (.lload 4, 2) := by decide +kernel
theorem dX7_lesser_46 : decode cX7_lesser 46 = .ok (.lor, 1) := by decide +kernel
theorem dX7_lesser_47 : decode cX7_lesser 47 = .ok (.lreturn, 1) := by decide +kernel
theorem dX7_lesser_48 : decode cX7_lesser 48 = .ok (.aload_n 0, 1) := by decide +kernel
theorem dX7_lesser_49 : decode cX7_lesser 49 = .ok (.iload_n 1, 1) := by decide +kernel
theorem dX7_lesser_50 : decode cX7_lesser 50 = .ok (.lload_n 2, 1) := by decide +kernel
theorem dX7_lesser_51 : decode cX7_lesser 51 = .ok (.invokevirtual 133, 3) := by decide +kernel
theorem dX7_lesser_54 : decode cX7_lesser 54 = .ok (.aload_n 0, 1) := by decide +kernel
theorem dX7_lesser_55 : decode cX7_lesser 55 = .ok (.iload_n 1, 1) := by decide +kernel
theorem dX7_lesser_56 : decode cX7_lesser 56 = .ok (.lload 4, 2) := by decide +kernel
theorem dX7_lesser_58 : decode cX7_lesser 58 = .ok (.invokevirtual 133, 3) := by decide +kernel
theorem dX7_lesser_61 : decode cX7_lesser 61 = .ok (.lcmp, 1) := by decide +kernel
theorem dX7_lesser_62 : decode cX7_lesser 62 = .ok (.ifCond .ge 7, 3) := by decide +kernel
theorem dX7_lesser_65 : decode cX7_lesser 65 = .ok (.lload_n 2, 1) := by decide +kernel
theorem dX7_lesser_66 : decode cX7_lesser 66 = .ok (.goto 5, 3) := by decide +kernel
theorem dX7_lesser_69 : decode cX7_lesser 69 = .ok (.lload 4, 2) := by decide +kernel
theorem dX7_lesser_71 : decode cX7_lesser 71 = .ok (.lreturn, 1) := by decide +kernel
theorem dX7_greater_0 : decode cX7_greater 0 = .ok (.aload_n 0, 1) := by decide +kernel
theorem dX7_greater_1 : decode cX7_greater 1 = .ok (.iload_n 1, 1) := by decide +kernel
theorem dX7_greater_2 : decode cX7_greater 2 = .ok (.lload_n 2, 1) := by decide +kernel
theorem dX7_greater_3 : decode cX7_greater 3 = .ok (.invokevirtual 98, 3) := by decide +kernel
theorem dX7_greater_6 : decode cX7_greater 6 = .ok (.ifCond .ne 13, 3) := by decide +kernel
theorem dX7_greater_9 : decode cX7_greater 9 = .ok (.aload_n 0, 1) := by decide +kernel
theorem dX7_greater_10 : decode cX7_greater 10 = .ok (.iload_n 1, 1) := by decide +kernel
theorem dX7_greater_11 : decode cX7_greater 11 = .ok (.lload 4, 2) := by decide +kernel
theorem dX7_greater_13 : decode cX7_greater 13 = .ok (.invokevirtual 98, 3) := by decide +kernel
theorem dX7_greater_16 : decode cX7_greater 16 = .ok (.ifCond .eq 10, 3) := by decide +kernel
theorem dX7_greater_19 : decode cX7_greater 19 = .ok (.aload_n 0, 1) := by decide +kernel
theorem dX7_greater_20 : decode cX7_greater 20 = .ok (.getfield 38, 3) := by decide +kernel
theorem dX7_greater_23 : decode cX7_greater 23 = .ok (.iload_n 1, 1) := by decide +kernel
theorem dX7_greater_24 : decode cX7_greater 24 = .ok (.laload, 1) := by decide +kernel
theorem dX7_greater_25 : decode cX7_greater 25 = .ok (.lreturn, 1) := by decide +kernel
theorem dX7_greater_26 : decode cX7_greater 26 = .ok (.aload_n 0, 1) := by decide +kernel
theorem dX7_greater_27 : decode cX7_greater 27 = .ok (.iload_n 1, 1) := by decide +kernel
theorem dX7_greater_28 : decode cX7_greater 28 = .ok (.lload_n 2, 1) := by decide +kernel
theorem dX7_greater_29 : decode cX7_greater 29 = .ok (.invokevirtual 133, 3) := by decide +kernel
theorem dX7_greater_32 : decode cX7_greater 32 = .ok (.aload_n 0, 1) := by decide +kernel
theorem dX7_greater_33 : decode cX7_greater 33 = .ok (.iload_n 1, 1) := by decide +kernel
theorem dX7_greater_34 : decode cX7_greater 34 = .ok (.lload 4, 2) := by decide +kernel
theorem dX7_greater_36 : decode cX7_greater 36 = .ok (.invokevirtual 133, 3) := by decide +kernel
theorem dX7_greater_39 : decode cX7_greater 39 = .ok (.lcmp, 1) := by decide +kernel
theorem dX7_greater_40 : decode cX7_greater 40 = .ok (.ifCond .ne 8, 3) := by decide +kernel
theorem dX7_greater_43 : decode cX7_greater 43 = .ok (.lload_n 2, 1) := by decide +kernel
theorem dX7_greater_44 : decode cX7_greater 44 = .ok (.lload 4, 2) := by decide +kernel
theorem dX7_greater_46 : decode cX7_greater 46 = .ok (.land, 1) := by decide +kernel
theorem dX7_greater_47 : decode cX7_greater 47 = .ok (.lreturn, 1) := by decide +kernel
theorem dX7_greater_48 : decode cX7_greater 48 = .ok (.aload_n 0, 1) := by decide +kernel
theorem dX7_greater_49 : decode cX7_greater 49 = .ok (.iload_n 1, 1) := by decide +kernel
theorem dX7_greater_50 : decode cX7_greater 50 = .ok (.lload_n 2, 1) := by decide +kernel
theorem dX7_greater_51 : decode cX7_greater 51 = .ok (.invokevirtual 133, 3) := by decide +kernel
theorem dX7_greater_54 : decode cX7_greater 54 = .ok (.aload_n 0, 1) := by decide +kernel
theorem dX7_greater_55 : decode cX7_greater 55 = .ok (.iload_n 1, 1) := by decide +kernel
theorem dX7_greater_56 : decode cX7_greater 56 = .ok (.lload 4, 2) := by decide +kernel
theorem dX7_greater_58 : decode cX7_greater 58 = .ok (.invokevirtual 133, 3) := by decide +kernel
theorem dX7_greater_61 : decode cX7_greater 61 = .ok (.lcmp, 1) := by decide +kernel
theorem dX7_greater_62 : decode cX7_greater 62 = .ok (.ifCond .le 7, 3) := by decide +kernel
theorem dX7_greater_65 : decode cX7_greater 65 = .ok (.lload_n 2, 1) := by decide +kernel
theorem dX7_greater_66 : decode cX7_greater 66 = .ok (.goto 5, 3) := by decide +kernel
theorem dX7_greater_69 : decode cX7_greater 69 = .ok (.lload 4, 2) := by decide +kernel
theorem dX7_greater_71 : decode cX7_greater 71 = .ok (.lreturn, 1) := by decide +kernel
theorem dX7_order_0 : decode cX7_order 0 = .ok (.lload_n 2, 1) := by decide +kernel
theorem dX7_order_1 : decode cX7_order 1 = .ok (.lload 4, 2) := by decide +kernel
theorem dX7_order_3 : decode cX7_order 3 = .ok (.lcmp, 1) := by decide +kernel
theorem dX7_order_4 : decode cX7_order 4 = .ok (.ifCond .ne 5, 3) := by decide +kernel
theorem dX7_order_7 : decode cX7_order 7 = .ok (.iconst 0, 1) := by decide +kernel
theorem dX7_order_8 : decode cX7_order 8 = .ok (.ireturn, 1) := by decide +kernel
theorem dX7_order_9 : decode cX7_order 9 = .ok (.aload_n 0, 1) := by decide +kernel
theorem dX7_order_10 : decode cX7_order 10 = .ok (.iload_n 1, 1) := by decide +kernel
theorem dX7_order_11 : decode cX7_order 11 = .ok (.lload_n 2, 1) := by decide +kernel
theorem dX7_order_12 : decode cX7_order 12 = .ok (.invokevirtual 98, 3) := by decide +kernel
theorem dX7_order_15 : decode cX7_order 15 = .ok (.ifCond .ne 13, 3) := by decide +kernel
theorem dX7_order_18 : decode cX7_order 18 = .ok (.aload_n 0, 1) := by decide +kernel
theorem dX7_order_19 : decode cX7_order 19 = .ok (.iload_n 1, 1) := by decide +kernel
theorem dX7_order_20 : decode cX7_order 20 = .ok (.lload 4, 2) := by decide +kernel
theorem dX7_order_22 : decode cX7_order 22 = .ok (.invokevirtual 98, 3) := by decide +kernel
theorem dX7_order_25 : decode cX7_order 25 = .ok (.ifCond .eq 18, 3) := by decide +kernel
theorem dX7_order_28 : decode cX7_order 28 = .ok (.aload_n 0, 1) := by decide +kernel
theorem dX7_order_29 : decode cX7_order 29 = .ok (.iload_n 1, 1) := by decide +kernel
theorem dX7_order_30 : decode cX7_order 30 = .ok (.lload_n 2, 1) := by decide +kernel
theorem dX7_order_31 : decode cX7_order 31 = .ok (.invokevirtual 98, 3) := by decide +kernel
theorem dX7_order_34 : decode cX7_order 34 = .ok (.ifCond .eq 7, 3) := by decide +kernel
theorem dX7_order_37 : decode cX7_order 37 = .ok (.iconst 1, 1) := by decide +kernel
theorem dX7_order_38 : decode cX7_order 38 = .ok (.goto 4, 3) := by decide +kernel
theorem dX7_order_41 : decode cX7_order 41 = .ok (.iconst (-1), 1) := by decide +kernel
theorem dX7_order_42 : decode cX7_order 42 = .ok (.ireturn, 1) := by decide +kernel
theorem dX7_order_43 : decode cX7_order 43 = .ok (.aload_n 0, 1) := by decide +kernel
theorem dX7_order_44 : decode cX7_order 44 = .ok (.iload_n 1, 1) := by decide +kernel
theorem dX7_order_45 : decode cX7_order 45 = .ok (.lload_n 2, 1) := by decide +kernel
theorem dX7_order_46 : decode cX7_order 46 = .ok (.invokevirtual 133, 3) := by decide +kernel
theorem dX7_order_49 : decode cX7_order 49 = .ok (.aload_n 0, 1) := by decide +kernel
theorem dX7_order_50 : decode cX7_order 50 = .ok (.iload_n 1, 1) := by decide +kernel
theorem dX7_order_51 : decode cX7_order 51 = .ok (.lload 4, 2) := by decide +kernel
theorem dX7_order_53 : decode cX7_order 53 = .ok (.invokevirtual 133, 3) := by decide +kernel
theorem dX7_order_56 : decode cX7_order 56 = .ok (.lcmp, 1) := by decide +kernel
theorem dX7_order_57 : decode cX7_order 57 = .ok (.ifCond .eq 26, 3) := by decide +kernel
theorem dX7_order_60 : decode cX7_order 60 = .ok (.aload_n 0, 1) := by decide +kernel
theorem dX7_order_61 : decode cX7_order 61 = .ok (.iload_n 1, 1) := by decide +kernel
theorem dX7_order_62 : decode cX7_order 62 = .ok (.lload_n 2, 1) := by decide +kernel
theorem dX7_order_63 : decode cX7_order 63 = .ok (.invokevirtual 133, 3) := by decide +kernel
theorem dX7_order_66 : decode cX7_order 66 = .ok (.aload_n 0, 1) := by decide +kernel
theorem dX7_order_67 : decode cX7_order 67 = .ok (.iload_n 1, 1) := by decide +kernel
theorem dX7_order_68 : decode cX7_order 68 = .ok (.lload 4, 2) := by decide +kernel
theorem dX7_order_70 : decode cX7_order 70 = .ok (.invokevirtual 133, 3) := by decide +kernel
theorem dX7_order_73 : decode cX7_order 73 = .ok (.lcmp, 1) := by decide +kernel
theorem dX7_order_74 : decode cX7_order 74 = .ok (.ifCond .ge 7, 3) := by decide +kernel
theorem dX7_order_77 : decode cX7_order 77 = .ok (.iconst (-1), 1) := by decide +kernel
theorem dX7_order_78 : decode cX7_order 78 = .ok (.goto 4, 3) := by decide +kernel
theorem dX7_order_81 : decode cX7_order 81 = .ok (.iconst 1, 1) := by decide +kernel
theorem dX7_order_82 : decode cX7_order 82 = .ok (.ireturn, 1) := by decide +kernel
theorem dX7_order_83 : decode cX7_order 83 = .ok (.aload_n 0, 1) := by decide +kernel
theorem dX7_order_84 : decode cX7_order 84 = .ok (.iload_n 1, 1) := by decide +kernel
theorem dX7_order_85 : decode cX7_order 85 = .ok (.lload_n 2, 1) := by decide +kernel
theorem dX7_order_86 : decode cX7_order 86 = .ok (.invokevirtual 108, 3) := by decide +kernel
theorem dX7_order_89 : decode cX7_order 89 = .ok (.ifCond .eq 7, 3) := by decide +kernel
theorem dX7_order_92 : decode cX7_order 92 = .ok (.iconst (-1), 1) := by decide +kernel
theorem dX7_order_93 : decode cX7_order 93 = .ok (.goto 4, 3) := by decide +kernel
theorem dX7_order_96 : decode cX7_order 96 = .ok (.iconst 1, 1) := by decide +kernel
theorem dX7_order_97 : decode cX7_order 97 = .ok (.ireturn, 1) := by decide +kernel
theorem dX7_ofRank_0 : decode cX7_ofRank 0 = .ok (.lload_n 2, 1) := by decide +kernel
theorem dX7_ofRank_1 : decode cX7_ofRank 1 = .ok (.lconst 0, 1) := by decide +kernel
theorem dX7_ofRank_2 : decode cX7_ofRank 2 = .ok (.lcmp, 1) := by decide +kernel
theorem dX7_ofRank_3 : decode cX7_ofRank 3 = .ok (.ifCond .ne 14, 3) := by decide +kernel
theorem dX7_ofRank_6 : decode cX7_ofRank 6 = .ok (.aload_n 0, 1) := by decide +kernel
theorem dX7_ofRank_7 : decode cX7_ofRank 7 = .ok (.iload_n 1, 1) := by decide +kernel
theorem dX7_ofRank_8 : decode cX7_ofRank 8 = .ok (.lconst 0, 1) := by decide +kernel
theorem dX7_ofRank_9 : decode cX7_ofRank 9 = .ok (.iload 4, 2) := by decide +kernel
theorem dX7_ofRank_11 : decode cX7_ofRank 11 = .ok (.invokevirtual 111, 3) := by decide +kernel
theorem dX7_ofRank_14 : decode cX7_ofRank 14 = .ok (.goto 31, 3) := by decide +kernel
theorem dX7_ofRank_17 : decode cX7_ofRank 17 = .ok (.aload_n 0, 1) := by decide +kernel
theorem dX7_ofRank_18 : decode cX7_ofRank 18 = .ok (.iload_n 1, 1) := by decide +kernel
theorem dX7_ofRank_19 : decode cX7_ofRank 19 = .ok (.lload_n 2, 1) := by decide +kernel
theorem dX7_ofRank_20 : decode cX7_ofRank 20 = .ok (.lconst 0, 1) := by decide +kernel
theorem dX7_ofRank_21 : decode cX7_ofRank 21 = .ok (.lcmp, 1) := by decide +kernel
theorem dX7_ofRank_22 : decode cX7_ofRank 22 = .ok (.ifCond .ge 8, 3) := by decide +kernel
theorem dX7_ofRank_25 : decode cX7_ofRank 25 = .ok (.lload_n 2, 1) := by decide +kernel
theorem dX7_ofRank_26 : decode cX7_ofRank 26 = .ok (.lneg, 1) := by decide +kernel
theorem dX7_ofRank_27 : decode cX7_ofRank 27 = .ok (.goto 4, 3) := by decide +kernel
theorem dX7_ofRank_30 : decode cX7_ofRank 30 = .ok (.lload_n 2, 1) := by decide +kernel
theorem dX7_ofRank_31 : decode cX7_ofRank 31 = .ok (.lload_n 2, 1) := by decide +kernel
theorem dX7_ofRank_32 : decode cX7_ofRank 32 = .ok (.lconst 0, 1) := by decide +kernel
theorem dX7_ofRank_33 : decode cX7_ofRank 33 = .ok (.lcmp, 1) := by decide +kernel
theorem dX7_ofRank_34 : decode cX7_ofRank 34 = .ok (.ifCond .ge 7, 3) := by decide +kernel
theorem dX7_ofRank_37 : decode cX7_ofRank 37 = .ok (.iconst 1, 1) := by decide +kernel
theorem dX7_ofRank_38 : decode cX7_ofRank 38 = .ok (.goto 4, 3) := by decide +kernel
theorem dX7_ofRank_41 : decode cX7_ofRank 41 = .ok (.iconst 0, 1) := by decide +kernel
theorem dX7_ofRank_42 : decode cX7_ofRank 42 = .ok (.invokevirtual 111, 3) := by decide +kernel
theorem dX7_ofRank_45 : decode cX7_ofRank 45 = .ok (.lreturn, 1) := by decide +kernel
theorem dX7_downward_0 : decode cX7_downward 0 = .ok (.aload_n 0, 1) := by decide +kernel
theorem dX7_downward_1 : decode cX7_downward 1 = .ok (.iload_n 1, 1) := by decide +kernel
theorem dX7_downward_2 : decode cX7_downward 2 = .ok (.lload_n 2, 1) := by decide +kernel
theorem dX7_downward_3 : decode cX7_downward 3 = .ok (.invokevirtual 98, 3) := by decide +kernel
theorem dX7_downward_6 : decode cX7_downward 6 = .ok (.ifCond .eq 16, 3) := by decide +kernel
theorem dX7_downward_9 : decode cX7_downward 9 = .ok (.aload_n 0, 1) := by decide +kernel
theorem dX7_downward_10 : decode cX7_downward 10 = .ok (.iload_n 1, 1) := by decide +kernel
theorem dX7_downward_11 : decode cX7_downward 11 = .ok (.aload_n 0, 1) := by decide +kernel
theorem dX7_downward_12 : decode cX7_downward 12 = .ok (.getfield 31, 3) := by decide +kernel
theorem dX7_downward_15 : decode cX7_downward 15 = .ok (.iload_n 1, 1) := by decide +kernel
theorem dX7_downward_16 : decode cX7_downward 16 = .ok (.laload, 1) := by decide +kernel
theorem dX7_downward_17 : decode cX7_downward 17 = .ok (.iconst 1, 1) := by decide +kernel
theorem dX7_downward_18 : decode cX7_downward 18 = .ok (.invokevirtual 111, 3) := by decide +kernel
theorem dX7_downward_21 : decode cX7_downward 21 = .ok (.lreturn, 1) := by decide +kernel
theorem dX7_downward_22 : decode cX7_downward 22 = .ok (.aload_n 0, 1) := by decide +kernel
theorem dX7_downward_23 : decode cX7_downward 23 = .ok (.iload_n 1, 1) := by decide +kernel
theorem dX7_downward_24 : decode cX7_downward 24 = .ok (.lload_n 2, 1) := by decide +kernel
theorem dX7_downward_25 : decode cX7_downward 25 = .ok (.invokevirtual 133, 3) := by decide +kernel
theorem dX7_downward_28 : decode cX7_downward 28 = .ok (.aload_n 0, 1) := by decide +kernel
theorem dX7_downward_29 : decode cX7_downward 29 = .ok (.getfield 31, 3) := by decide +kernel
theorem dX7_downward_32 : decode cX7_downward 32 = .ok (.iload_n 1, 1) := by decide +kernel
theorem dX7_downward_33 : decode cX7_downward 33 = .ok (.laload, 1) := by decide +kernel
theorem dX7_downward_34 : decode cX7_downward 34 = .ok (.lneg, 1) := by decide +kernel
theorem dX7_downward_35 : decode cX7_downward 35 = .ok (.lcmp, 1) := by decide +kernel
theorem dX7_downward_36 : decode cX7_downward 36 = .ok (.ifCond .ne 7, 3) := by decide +kernel
theorem dX7_downward_39 : decode cX7_downward 39 = .ok (.lload_n 2, 1) := by decide +kernel
theorem dX7_downward_40 : decode cX7_downward 40 = .ok (.goto 17, 3) := by decide +kernel
theorem dX7_downward_43 : decode cX7_downward 43 = .ok (.aload_n 0, 1) := by decide +kernel
theorem dX7_downward_44 : decode cX7_downward 44 = .ok (.iload_n 1, 1) := by decide +kernel
theorem dX7_downward_45 : decode cX7_downward 45 = .ok (.aload_n 0, 1) := by decide +kernel
theorem dX7_downward_46 : decode cX7_downward 46 = .ok (.iload_n 1, 1) := by decide +kernel
theorem dX7_downward_47 : decode cX7_downward 47 = .ok (.lload_n 2, 1) := by decide +kernel
theorem dX7_downward_48 : decode cX7_downward 48 = .ok (.invokevirtual 133, 3) := by decide +kernel
theorem dX7_downward_51 : decode cX7_downward 51 = .ok (.lconst 1, 1) := by decide +kernel
theorem dX7_downward_52 : decode cX7_downward 52 = .ok (.lsub, 1) := by decide +kernel
theorem dX7_downward_53 : decode cX7_downward 53 = .ok (.iconst 0, 1) := by decide +kernel
theorem dX7_downward_54 : decode cX7_downward 54 = .ok (.invokevirtual 136, 3) := by decide +kernel
theorem dX7_downward_57 : decode cX7_downward 57 = .ok (.lreturn, 1) := by decide +kernel
theorem dX7_upward_0 : decode cX7_upward 0 = .ok (.aload_n 0, 1) := by decide +kernel
theorem dX7_upward_1 : decode cX7_upward 1 = .ok (.iload_n 1, 1) := by decide +kernel
theorem dX7_upward_2 : decode cX7_upward 2 = .ok (.lload_n 2, 1) := by decide +kernel
theorem dX7_upward_3 : decode cX7_upward 3 = .ok (.invokevirtual 98, 3) := by decide +kernel
theorem dX7_upward_6 : decode cX7_upward 6 = .ok (.ifCond .eq 10, 3) := by decide +kernel
theorem dX7_upward_9 : decode cX7_upward 9 = .ok (.aload_n 0, 1) := by decide +kernel
theorem dX7_upward_10 : decode cX7_upward 10 = .ok (.getfield 31, 3) := by decide +kernel
theorem dX7_upward_13 : decode cX7_upward 13 = .ok (.iload_n 1, 1) := by decide +kernel
theorem dX7_upward_14 : decode cX7_upward 14 = .ok (.laload, 1) := by decide +kernel
theorem dX7_upward_15 : decode cX7_upward 15 = .ok (.lreturn, 1) := by decide +kernel
theorem dX7_upward_16 : decode cX7_upward 16 = .ok (.aload_n 0, 1) := by decide +kernel
theorem dX7_upward_17 : decode cX7_upward 17 = .ok (.iload_n 1, 1) := by decide +kernel
theorem dX7_upward_18 : decode cX7_upward 18 = .ok (.lload_n 2, 1) := by decide +kernel
theorem dX7_upward_19 : decode cX7_upward 19 = .ok (.invokevirtual 133, 3) := by decide +kernel
theorem dX7_upward_22 : decode cX7_upward 22 = .ok (.aload_n 0, 1) := by decide +kernel
theorem dX7_upward_23 : decode cX7_upward 23 = .ok (.getfield 31, 3) := by decide +kernel
theorem dX7_upward_26 : decode cX7_upward 26 = .ok (.iload_n 1, 1) := by decide +kernel
theorem dX7_upward_27 : decode cX7_upward 27 = .ok (.laload, 1) := by decide +kernel
theorem dX7_upward_28 : decode cX7_upward 28 = .ok (.lcmp, 1) := by decide +kernel
theorem dX7_upward_29 : decode cX7_upward 29 = .ok (.ifCond .ne 7, 3) := by decide +kernel
theorem dX7_upward_32 : decode cX7_upward 32 = .ok (.lload_n 2, 1) := by decide +kernel
theorem dX7_upward_33 : decode cX7_upward 33 = .ok (.goto 17, 3) := by decide +kernel
theorem dX7_upward_36 : decode cX7_upward 36 = .ok (.aload_n 0, 1) := by decide +kernel
theorem dX7_upward_37 : decode cX7_upward 37 = .ok (.iload_n 1, 1) := by decide +kernel
theorem dX7_upward_38 : decode cX7_upward 38 = .ok (.aload_n 0, 1) := by decide +kernel
theorem dX7_upward_39 : decode cX7_upward 39 = .ok (.iload_n 1, 1) := by decide +kernel
theorem dX7_upward_40 : decode cX7_upward 40 = .ok (.lload_n 2, 1) := by decide +kernel
theorem dX7_upward_41 : decode cX7_upward 41 = .ok (.invokevirtual 133, 3) := by decide +kernel
theorem dX7_upward_44 : decode cX7_upward 44 = .ok (.lconst 1, 1) := by decide +kernel
theorem dX7_upward_45 : decode cX7_upward 45 = .ok (.ladd, 1) := by decide +kernel
theorem dX7_upward_46 : decode cX7_upward 46 = .ok (.iconst 1, 1) := by decide +kernel
theorem dX7_upward_47 : decode cX7_upward 47 = .ok (.invokevirtual 136, 3) := by decide +kernel
theorem dX7_upward_50 : decode cX7_upward 50 = .ok (.lreturn, 1) := by decide +kernel
theorem dX7_row_0 : decode cX7_row 0 = .ok (.iload_n 1, 1) := by decide +kernel
theorem dX7_row_1 : decode cX7_row 1 = .ok (.iconst 1, 1) := by decide +kernel
theorem dX7_row_2 : decode cX7_row 2 = .ok (.if_icmp .lt 10, 3) := by decide +kernel
theorem dX7_row_5 : decode cX7_row 5 = .ok (.iload_n 1, 1) := by decide +kernel
theorem dX7_row_6 : decode cX7_row 6 = .ok (.sipush 500, 3) := by decide +kernel
theorem dX7_row_9 : decode cX7_row 9 = .ok (.if_icmp .le 9, 3) := by decide +kernel
theorem dX7_row_12 : decode cX7_row 12 = .ok (.aload_n 0, 1) := by decide +kernel
theorem dX7_row_13 : decode cX7_row 13 = .ok (.iconst 2, 1) := by decide +kernel
theorem dX7_row_14 : decode cX7_row 14 = .ok (.invokevirtual 139, 3) := by decide +kernel
theorem dX7_row_17 : decode cX7_row 17 = .ok (.ireturn, 1) := by decide +kernel
theorem dX7_row_18 : decode cX7_row 18 = .ok (.aload_n 0, 1) := by decide +kernel
theorem dX7_row_19 : decode cX7_row 19 = .ok (.getfield 79, 3) := by decide +kernel
theorem dX7_row_22 : decode cX7_row 22 = .ok (.bipush 64, 2) := by decide +kernel
theorem dX7_row_24 : decode cX7_row 24 = .ok (.if_icmp .eq 20, 3) := by decide +kernel
theorem dX7_row_27 : decode cX7_row 27 = .ok (.aload_n 0, 1) := by decide +kernel
theorem dX7_row_28 : decode cX7_row 28 = .ok (.getfield 48, 3) := by decide +kernel
theorem dX7_row_31 : decode cX7_row 31 = .ok (.aload_n 0, 1) := by decide +kernel
theorem dX7_row_32 : decode cX7_row 32 = .ok (.getfield 79, 3) := by decide +kernel
theorem dX7_row_35 : decode cX7_row 35 = .ok (.iaload, 1) := by decide +kernel
theorem dX7_row_36 : decode cX7_row 36 = .ok (.iload_n 1, 1) := by decide +kernel
theorem dX7_row_37 : decode cX7_row 37 = .ok (.iadd, 1) := by decide +kernel
theorem dX7_row_38 : decode cX7_row 38 = .ok (.sipush 4000, 3) := by decide +kernel
theorem dX7_row_41 : decode cX7_row 41 = .ok (.if_icmp .le 9, 3) := by decide +kernel
theorem dX7_row_44 : decode cX7_row 44 = .ok (.aload_n 0, 1) := by decide +kernel
theorem dX7_row_45 : decode cX7_row 45 = .ok (.iconst 5, 1) := by decide +kernel
theorem dX7_row_46 : decode cX7_row 46 = .ok (.invokevirtual 139, 3) := by decide +kernel
theorem dX7_row_49 : decode cX7_row 49 = .ok (.ireturn, 1) := by decide +kernel
theorem dX7_row_50 : decode cX7_row 50 = .ok (.aload_n 0, 1) := by decide +kernel
theorem dX7_row_51 : decode cX7_row 51 = .ok (.getfield 51, 3) := by decide +kernel
theorem dX7_row_54 : decode cX7_row 54 = .ok (.aload_n 0, 1) := by decide +kernel
theorem dX7_row_55 : decode cX7_row 55 = .ok (.getfield 79, 3) := by decide +kernel
theorem dX7_row_58 : decode cX7_row 58 = .ok (.iload_n 2, 1) := by decide +kernel
theorem dX7_row_59 : decode cX7_row 59 = .ok (.ifCond .eq 7, 3) := by decide +kernel
theorem dX7_row_62 : decode cX7_row 62 = .ok (.iconst 1, 1) := by decide +kernel
theorem dX7_row_63 : decode cX7_row 63 = .ok (.goto 4, 3) := by decide +kernel
theorem dX7_row_66 : decode cX7_row 66 = .ok (.iconst 0, 1) := by decide +kernel
theorem dX7_row_67 : decode cX7_row 67 = .ok (.iastore, 1) := by decide +kernel
theorem dX7_row_68 : decode cX7_row 68 = .ok (.aload_n 0, 1) := by decide +kernel
theorem dX7_row_69 : decode cX7_row 69 = .ok (.getfield 48, 3) := by decide +kernel
theorem dX7_row_72 : decode cX7_row 72 = .ok (.aload_n 0, 1) := by decide +kernel
theorem dX7_row_73 : decode cX7_row 73 = .ok (.getfield 79, 3) := by decide +kernel
theorem dX7_row_76 : decode cX7_row 76 = .ok (.iconst 1, 1) := by decide +kernel
theorem dX7_row_77 : decode cX7_row 77 = .ok (.iadd, 1) := by decide +kernel
theorem dX7_row_78 : decode cX7_row 78 = .ok (.aload_n 0, 1) := by decide +kernel
theorem dX7_row_79 : decode cX7_row 79 = .ok (.getfield 48, 3) := by decide +kernel
theorem dX7_row_82 : decode cX7_row 82 = .ok (.aload_n 0, 1) := by decide +kernel
theorem dX7_row_83 : decode cX7_row 83 = .ok (.getfield 79, 3) := by decide +kernel
theorem dX7_row_86 : decode cX7_row 86 = .ok (.iaload, 1) := by decide +kernel
theorem dX7_row_87 : decode cX7_row 87 = .ok (.iload_n 1, 1) := by decide +kernel
theorem dX7_row_88 : decode cX7_row 88 = .ok (.iadd, 1) := by decide +kernel
theorem dX7_row_89 : decode cX7_row 89 = .ok (.iastore, 1) := by decide +kernel
theorem dX7_row_90 : decode cX7_row 90 = .ok (.aload_n 0, 1) := by decide +kernel
theorem dX7_row_91 : decode cX7_row 91 = .ok (.dup, 1) := by decide +kernel
theorem dX7_row_92 : decode cX7_row 92 = .ok (.getfield 79, 3) := by decide +kernel
theorem dX7_row_95 : decode cX7_row 95 = .ok (.iconst 1, 1) := by decide +kernel
theorem dX7_row_96 : decode cX7_row 96 = .ok (.iadd, 1) := by decide +kernel
theorem dX7_row_97 : decode cX7_row 97 = .ok (.putfield 79, 3) := by decide +kernel
theorem dX7_row_100 : decode cX7_row 100 = .ok (.aload_n 0, 1) := by decide +kernel
theorem dX7_row_101 : decode cX7_row 101 = .ok (.iconst 0, 1) := by decide +kernel
theorem dX7_row_102 : decode cX7_row 102 = .ok (.putfield 75, 3) := by decide +kernel
theorem dX7_row_105 : decode cX7_row 105 = .ok (.aload_n 0, 1) := by decide +kernel
theorem dX7_row_106 : decode cX7_row 106 = .ok (.getfield 79, 3) := by decide +kernel
theorem dX7_row_109 : decode cX7_row 109 = .ok (.iconst 1, 1) := by decide +kernel
theorem dX7_row_110 : decode cX7_row 110 = .ok (.isub, 1) := by decide +kernel
theorem dX7_row_111 : decode cX7_row 111 = .ok (.ireturn, 1) := by decide +kernel
theorem dX7_set_0 : decode cX7_set 0 = .ok (.aload_n 0, 1) := by decide +kernel
theorem dX7_set_1 : decode cX7_set 1 = .ok (.iload_n 1, 1) := by decide +kernel
theorem dX7_set_2 : decode cX7_set 2 = .ok (.iload_n 2, 1) := by decide +kernel
theorem dX7_set_3 : decode cX7_set 3 = .ok (.invokevirtual 142, 3) := by decide +kernel
theorem dX7_set_6 : decode cX7_set 6 = .ok (.istore 5, 2) := by decide +kernel
theorem dX7_set_8 : decode cX7_set 8 = .ok (.iload 5, 2) := by decide +kernel
theorem dX7_set_10 : decode cX7_set 10 = .ok (.ifCond .le 10, 3) := by decide +kernel
theorem dX7_set_13 : decode cX7_set 13 = .ok (.aload_n 0, 1) := by decide +kernel
theorem dX7_set_14 : decode cX7_set 14 = .ok (.iload 5, 2) := by decide +kernel
theorem dX7_set_16 : decode cX7_set 16 = .ok (.invokevirtual 139, 3) := by decide +kernel
theorem dX7_set_19 : decode cX7_set 19 = .ok (.ireturn, 1) := by decide +kernel
theorem dX7_set_20 : decode cX7_set 20 = .ok (.aload_n 0, 1) := by decide +kernel
theorem dX7_set_21 : decode cX7_set 21 = .ok (.iconst 0, 1) := by decide +kernel
theorem dX7_set_22 : decode cX7_set 22 = .ok (.putfield 75, 3) := by decide +kernel
theorem dX7_set_25 : decode cX7_set 25 = .ok (.aload_n 0, 1) := by decide +kernel
theorem dX7_set_26 : decode cX7_set 26 = .ok (.iload_n 1, 1) := by decide +kernel
theorem dX7_set_27 : decode cX7_set 27 = .ok (.iload_n 2, 1) := by decide +kernel
theorem dX7_set_28 : decode cX7_set 28 = .ok (.aload_n 0, 1) := by decide +kernel
theorem dX7_set_29 : decode cX7_set 29 = .ok (.aload_n 0, 1) := by decide +kernel
theorem dX7_set_30 : decode cX7_set 30 = .ok (.getfield 51, 3) := by decide +kernel
theorem dX7_set_33 : decode cX7_set 33 = .ok (.iload_n 1, 1) := by decide +kernel
theorem dX7_set_34 : decode cX7_set 34 = .ok (.iaload, 1) := by decide +kernel
theorem dX7_set_35 : decode cX7_set 35 = .ok (.lload_n 3, 1) := by decide +kernel
theorem dX7_set_36 : decode cX7_set 36 = .ok (.invokevirtual 146, 3) := by decide +kernel
theorem dX7_set_39 : decode cX7_set 39 = .ok (.invokevirtual 149, 3) := by decide +kernel
theorem dX7_set_42 : decode cX7_set 42 = .ok (.ireturn, 1) := by decide +kernel
theorem dX7_whole_0 : decode cX7_whole 0 = .ok (.aload_n 0, 1) := by decide +kernel
theorem dX7_whole_1 : decode cX7_whole 1 = .ok (.iload_n 1, 1) := by decide +kernel
theorem dX7_whole_2 : decode cX7_whole 2 = .ok (.iload_n 2, 1) := by decide +kernel
theorem dX7_whole_3 : decode cX7_whole 3 = .ok (.invokevirtual 142, 3) := by decide +kernel
theorem dX7_whole_6 : decode cX7_whole 6 = .ok (.istore 5, 2) := by decide +kernel
theorem dX7_whole_8 : decode cX7_whole 8 = .ok (.iload 5, 2) := by decide +kernel
theorem dX7_whole_10 : decode cX7_whole 10 = .ok (.ifCond .le 10, 3) := by decide +kernel
theorem dX7_whole_13 : decode cX7_whole 13 = .ok (.aload_n 0, 1) := by decide +kernel
theorem dX7_whole_14 : decode cX7_whole 14 = .ok (.iload 5, 2) := by decide +kernel
theorem dX7_whole_16 : decode cX7_whole 16 = .ok (.invokevirtual 139, 3) := by decide +kernel
theorem dX7_whole_19 : decode cX7_whole 19 = .ok (.ireturn, 1) := by decide +kernel
theorem dX7_whole_20 : decode cX7_whole 20 = .ok (.aload_n 0, 1) := by decide +kernel
theorem dX7_whole_21 : decode cX7_whole 21 = .ok (.iconst 0, 1) := by decide +kernel
theorem dX7_whole_22 : decode cX7_whole 22 = .ok (.putfield 75, 3) := by decide +kernel
theorem dX7_whole_25 : decode cX7_whole 25 = .ok (.aload_n 0, 1) := by decide +kernel
theorem dX7_whole_26 : decode cX7_whole 26 = .ok (.getfield 51, 3) := by decide +kernel
theorem dX7_whole_29 : decode cX7_whole 29 = .ok (.iload_n 1, 1) := by decide +kernel
theorem dX7_whole_30 : decode cX7_whole 30 = .ok (.iaload, 1) := by decide +kernel
theorem dX7_whole_31 : decode cX7_whole 31 = .ok (.istore 6, 2) := by decide +kernel
theorem dX7_whole_33 : decode cX7_whole 33 = .ok (.lload_n 3, 1) := by decide +kernel
theorem dX7_whole_34 : decode cX7_whole 34 = .ok (.lconst 0, 1) := by decide +kernel
theorem dX7_whole_35 : decode cX7_whole 35 = .ok (.lcmp, 1) := by decide +kernel
theorem dX7_whole_36 : decode cX7_whole 36 = .ok (.ifCond .ne 11, 3) := by decide +kernel
theorem dX7_whole_39 : decode cX7_whole 39 = .ok (.aload_n 0, 1) := by decide +kernel
theorem dX7_whole_40 : decode cX7_whole 40 = .ok (.iload_n 1, 1) := by decide +kernel
theorem dX7_whole_41 : decode cX7_whole 41 = .ok (.iload_n 2, 1) := by decide +kernel
theorem dX7_whole_42 : decode cX7_whole 42 = .ok (.lconst 0, 1) := by decide +kernel
theorem dX7_whole_43 : decode cX7_whole 43 = .ok (.invokevirtual 149, 3) := by decide +kernel
theorem dX7_whole_46 : decode cX7_whole 46 = .ok (.ireturn, 1) := by decide +kernel
theorem dX7_whole_47 : decode cX7_whole 47 = .ok (.lload_n 3, 1) := by decide +kernel
theorem dX7_whole_48 : decode cX7_whole 48 = .ok (.ldc2_w 19, 3) := by decide +kernel
theorem dX7_whole_51 : decode cX7_whole 51 = .ok (.lcmp, 1) := by decide +kernel
theorem dX7_whole_52 : decode cX7_whole 52 = .ok (.ifCond .ne 22, 3) := by decide +kernel
theorem dX7_whole_55 : decode cX7_whole 55 = .ok (.aload_n 0, 1) := by decide +kernel
theorem dX7_whole_56 : decode cX7_whole 56 = .ok (.iload_n 1, 1) := by decide +kernel
theorem dX7_whole_57 : decode cX7_whole 57 = .ok (.iload_n 2, 1) := by decide +kernel
theorem dX7_whole_58 : decode cX7_whole 58 = .ok (.aload_n 0, 1) := by decide +kernel
theorem dX7_whole_59 : decode cX7_whole 59 = .ok (.iload 6, 2) := by decide +kernel
theorem dX7_whole_61 : decode cX7_whole 61 = .ok (.iconst 1, 1) := by decide +kernel
theorem dX7_whole_62 : decode cX7_whole 62 = .ok (.ldc2_w 153, 3) := by decide +kernel
theorem dX7_whole_65 : decode cX7_whole 65 = .ok (.iconst 1, 1) := by decide +kernel
theorem dX7_whole_66 : decode cX7_whole 66 = .ok (.iconst 0, 1) := by decide +kernel
theorem dX7_whole_67 : decode cX7_whole 67 = .ok (.invokevirtual 125, 3) := by decide +kernel
theorem dX7_whole_70 : decode cX7_whole 70 = .ok (.invokevirtual 149, 3) := by decide +kernel
theorem dX7_whole_73 : decode cX7_whole 73 = .ok (.ireturn, 1) := by decide +kernel
theorem dX7_whole_74 : decode cX7_whole 74 = .ok (.aload_n 0, 1) := by decide +kernel
theorem dX7_whole_75 : decode cX7_whole 75 = .ok (.iload_n 1, 1) := by decide +kernel
theorem dX7_whole_76 : decode cX7_whole 76 = .ok (.iload_n 2, 1) := by decide +kernel
theorem dX7_whole_77 : decode cX7_whole 77 = .ok (.aload_n 0, 1) := by decide +kernel
theorem dX7_whole_78 : decode cX7_whole 78 = .ok (.iload 6, 2) := by decide +kernel
theorem dX7_whole_80 : decode cX7_whole 80 = .ok (.lload_n 3, 1) := by decide +kernel
theorem dX7_whole_81 : decode cX7_whole 81 = .ok (.lconst 0, 1) := by decide +kernel
theorem dX7_whole_82 : decode cX7_whole 82 = .ok (.lcmp, 1) := by decide +kernel
theorem dX7_whole_83 : decode cX7_whole 83 = .ok (.ifCond .ge 7, 3) := by decide +kernel
theorem dX7_whole_86 : decode cX7_whole 86 = .ok (.iconst 1, 1) := by decide +kernel
theorem dX7_whole_87 : decode cX7_whole 87 = .ok (.goto 4, 3) := by decide +kernel
theorem dX7_whole_90 : decode cX7_whole 90 = .ok (.iconst 0, 1) := by decide +kernel
theorem dX7_whole_91 : decode cX7_whole 91 = .ok (.lload_n 3, 1) := by decide +kernel
theorem dX7_whole_92 : decode cX7_whole 92 = .ok (.lconst 0, 1) := by decide +kernel
theorem dX7_whole_93 : decode cX7_whole 93 = .ok (.lcmp, 1) := by decide +kernel
theorem dX7_whole_94 : decode cX7_whole 94 = .ok (.ifCond .ge 8, 3) := by decide +kernel
theorem dX7_whole_97 : decode cX7_whole 97 = .ok (.lload_n 3, 1) := by decide +kernel
theorem dX7_whole_98 : decode cX7_whole 98 = .ok (.lneg, 1) := by decide +kernel
theorem dX7_whole_99 : decode cX7_whole 99 = .ok (.goto 4, 3) := by decide +kernel
theorem dX7_whole_102 : decode cX7_whole 102 = .ok (.lload_n 3, 1) := by decide +kernel
theorem dX7_whole_103 : decode cX7_whole 103 = .ok (.iconst 0, 1) := by decide +kernel
theorem dX7_whole_104 : decode cX7_whole 104 = .ok (.iconst 0, 1) := by decide +kernel
theorem dX7_whole_105 : decode cX7_whole 105 = .ok (.invokevirtual 125, 3) := by decide +kernel
theorem dX7_whole_108 : decode cX7_whole 108 = .ok (.invokevirtual 149, 3) := by decide +kernel
theorem dX7_whole_111 : decode cX7_whole 111 = .ok (.ireturn, 1) := by decide +kernel
theorem dX7_get_0 : decode cX7_get 0 = .ok (.aload_n 0, 1) := by decide +kernel
theorem dX7_get_1 : decode cX7_get 1 = .ok (.aload_n 0, 1) := by decide +kernel
theorem dX7_get_2 : decode cX7_get 2 = .ok (.iload_n 1, 1) := by decide +kernel
theorem dX7_get_3 : decode cX7_get 3 = .ok (.iload_n 2, 1) := by decide +kernel
theorem dX7_get_4 : decode cX7_get 4 = .ok (.invokevirtual 142, 3) := by decide +kernel
theorem dX7_get_7 : decode cX7_get 7 = .ok (.putfield 75, 3) := by decide +kernel
theorem dX7_get_10 : decode cX7_get 10 = .ok (.aload_n 0, 1) := by decide +kernel
theorem dX7_get_11 : decode cX7_get 11 = .ok (.getfield 75, 3) := by decide +kernel
theorem dX7_get_14 : decode cX7_get 14 = .ok (.ifCond .le 7, 3) := by decide +kernel
theorem dX7_get_17 : decode cX7_get 17 = .ok (.lconst 0, 1) := by decide +kernel
theorem dX7_get_18 : decode cX7_get 18 = .ok (.goto 9, 3) := by decide +kernel
theorem dX7_get_21 : decode cX7_get 21 = .ok (.aload_n 0, 1) := by decide +kernel
theorem dX7_get_22 : decode cX7_get 22 = .ok (.iload_n 1, 1) := by decide +kernel
theorem dX7_get_23 : decode cX7_get 23 = .ok (.iload_n 2, 1) := by decide +kernel
theorem dX7_get_24 : decode cX7_get 24 = .ok (.invokevirtual 155, 3) := by decide +kernel
theorem dX7_get_27 : decode cX7_get 27 = .ok (.lreturn, 1) := by decide +kernel
theorem dX7_cut_0 : decode cX7_cut 0 = .ok (.aload_n 0, 1) := by decide +kernel
theorem dX7_cut_1 : decode cX7_cut 1 = .ok (.aload_n 0, 1) := by decide +kernel
theorem dX7_cut_2 : decode cX7_cut 2 = .ok (.iload_n 1, 1) := by decide +kernel
theorem dX7_cut_3 : decode cX7_cut 3 = .ok (.iload_n 2, 1) := by decide +kernel
theorem dX7_cut_4 : decode cX7_cut 4 = .ok (.invokevirtual 142, 3) := by decide +kernel
theorem dX7_cut_7 : decode cX7_cut 7 = .ok (.putfield 75, 3) := by decide +kernel
theorem dX7_cut_10 : decode cX7_cut 10 = .ok (.aload_n 0, 1) := by decide +kernel
theorem dX7_cut_11 : decode cX7_cut 11 = .ok (.getfield 75, 3) := by decide +kernel
theorem dX7_cut_14 : decode cX7_cut 14 = .ok (.ifCond .le 5, 3) := by decide +kernel
theorem dX7_cut_17 : decode cX7_cut 17 = .ok (.lconst 0, 1) := by decide +kernel
theorem dX7_cut_18 : decode cX7_cut 18 = .ok (.lreturn, 1) := by decide +kernel
theorem dX7_cut_19 : decode cX7_cut 19 = .ok (.aload_n 0, 1) := by decide +kernel
theorem dX7_cut_20 : decode cX7_cut 20 = .ok (.getfield 51, 3) := by decide +kernel
theorem dX7_cut_23 : decode cX7_cut 23 = .ok (.iload_n 1, 1) := by decide +kernel
theorem dX7_cut_24 : decode cX7_cut 24 = .ok (.iaload, 1) := by decide +kernel
theorem dX7_cut_25 : decode cX7_cut 25 = .ok (.istore 4, 2) := by decide +kernel
theorem dX7_cut_27 : decode cX7_cut 27 = .ok (.aload_n 0, 1) := by decide +kernel
theorem dX7_cut_28 : decode cX7_cut 28 = .ok (.iload_n 1, 1) := by decide +kernel
theorem dX7_cut_29 : decode cX7_cut 29 = .ok (.iload_n 2, 1) := by decide +kernel
theorem dX7_cut_30 : decode cX7_cut 30 = .ok (.invokevirtual 155, 3) := by decide +kernel
theorem dX7_cut_33 : decode cX7_cut 33 = .ok (.lstore 5, 2) := by decide +kernel
theorem dX7_cut_35 : decode cX7_cut 35 = .ok (.aload_n 0, 1) := by decide +kernel
theorem dX7_cut_36 : decode cX7_cut 36 = .ok (.iload 4, 2) := by decide +kernel
theorem dX7_cut_38 : decode cX7_cut 38 = .ok (.lload 5, 2) := by decide +kernel
theorem dX7_cut_40 : decode cX7_cut 40 = .ok (.invokevirtual 98, 3) := by decide +kernel
theorem dX7_cut_43 : decode cX7_cut 43 = .ok (.ifCond .ne 14, 3) := by decide +kernel
theorem dX7_cut_46 : decode cX7_cut 46 = .ok (.aload_n 0, 1) := by decide +kernel
theorem dX7_cut_47 : decode cX7_cut 47 = .ok (.iload 4, 2) := by decide +kernel
theorem dX7_cut_49 : decode cX7_cut 49 = .ok (.lload 5, 2) := by decide +kernel
theorem dX7_cut_51 : decode cX7_cut 51 = .ok (.invokevirtual 102, 3) := by decide +kernel
theorem dX7_cut_54 : decode cX7_cut 54 = .ok (.ifCond .eq 5, 3) := by decide +kernel
theorem dX7_cut_57 : decode cX7_cut 57 = .ok (.lconst 0, 1) := by decide +kernel
theorem dX7_cut_58 : decode cX7_cut 58 = .ok (.lreturn, 1) := by decide +kernel
theorem dX7_cut_59 : decode cX7_cut 59 = .ok (.aload_n 0, 1) := by decide +kernel
theorem dX7_cut_60 : decode cX7_cut 60 = .ok (.iload 4, 2) := by decide +kernel
theorem dX7_cut_62 : decode cX7_cut 62 = .ok (.lload 5, 2) := by decide +kernel
theorem dX7_cut_64 : decode cX7_cut 64 = .ok (.invokevirtual 108, 3) := by decide +kernel
theorem dX7_cut_67 : decode cX7_cut 67 = .ok (.istore 7, 2) := by decide +kernel
theorem dX7_cut_69 : decode cX7_cut 69 = .ok (.iload_n 3, 1) := by decide +kernel
theorem dX7_cut_70 : decode cX7_cut 70 = .ok (.ifCond .eq 9, 3) := by decide +kernel
theorem dX7_cut_73 : decode cX7_cut 73 = .ok (.ldc2_w 159, 3) := by decide +kernel
theorem dX7_cut_76 : decode cX7_cut 76 = .ok (.goto 6, 3) := by decide +kernel
theorem dX7_cut_79 : decode cX7_cut 79 = .ok (.ldc2_w 161, 3) := by decide +kernel
theorem dX7_cut_82 : decode cX7_cut 82 = .ok (.lstore 8, 2) := by decide +kernel
theorem dX7_cut_84 : decode cX7_cut 84 = .ok (.aload_n 0, 1) := by decide +kernel
theorem dX7_cut_85 : decode cX7_cut 85 = .ok (.iload 4, 2) := by decide +kernel
theorem dX7_cut_87 : decode cX7_cut 87 = .ok (.lload 5, 2) := by decide +kernel
theorem dX7_cut_89 : decode cX7_cut 89 = .ok (.invokevirtual 105, 3) := by decide +kernel
theorem dX7_cut_92 : decode cX7_cut 92 = .ok (.ifCond .eq 8, 3) := by decide +kernel
theorem dX7_cut_95 : decode cX7_cut 95 = .ok (.bipush 99, 2) := by decide +kernel
theorem dX7_cut_97 : decode cX7_cut 97 = .ok (.goto 11, 3) := by decide +kernel
theorem dX7_cut_100 : decode cX7_cut 100 = .ok (.aload_n 0, 1) := by decide +kernel
theorem dX7_cut_101 : decode cX7_cut 101 = .ok (.iload 4, 2) := by decide +kernel
theorem dX7_cut_103 : decode cX7_cut 103 = .ok (.lload 5, 2) := by decide +kernel
theorem dX7_cut_105 : decode cX7_cut 105 = .ok (.invokevirtual 122, 3) := by decide +kernel
theorem dX7_cut_108 : decode cX7_cut 108 = .ok (.istore 10, 2) := by decide +kernel
theorem dX7_cut_110 : decode cX7_cut 110 = .ok (.iload 10, 2) := by decide +kernel
theorem dX7_cut_112 : decode cX7_cut 112 = .ok (.bipush 62, 2) := by decide +kernel
theorem dX7_cut_114 : decode cX7_cut 114 = .ok (.aload_n 0, 1) := by decide +kernel
theorem dX7_cut_115 : decode cX7_cut 115 = .ok (.getfield 7, 3) := by decide +kernel
theorem dX7_cut_118 : decode cX7_cut 118 = .ok (.iload 4, 2) := by decide +kernel
theorem dX7_cut_120 : decode cX7_cut 120 = .ok (.iaload, 1) := by decide +kernel
theorem dX7_cut_121 : decode cX7_cut 121 = .ok (.isub, 1) := by decide +kernel
theorem dX7_cut_122 : decode cX7_cut 122 = .ok (.if_icmp .le 19, 3) := by decide +kernel
theorem dX7_cut_125 : decode cX7_cut 125 = .ok (.iload 7, 2) := by decide +kernel
theorem dX7_cut_127 : decode cX7_cut 127 = .ok (.ifCond .eq 11, 3) := by decide +kernel
theorem dX7_cut_130 : decode cX7_cut 130 = .ok (.lload 8, 2) := by decide +kernel
theorem dX7_cut_132 : decode cX7_cut 132 = .ok (.lneg, 1) := by decide +kernel
theorem dX7_cut_133 : decode cX7_cut 133 = .ok (.lconst 1, 1) := by decide +kernel
theorem dX7_cut_134 : decode cX7_cut 134 = .ok (.lsub, 1) := by decide +kernel
theorem dX7_cut_135 : decode cX7_cut 135 = .ok (.goto 5, 3) := by decide +kernel
theorem dX7_cut_138 : decode cX7_cut 138 = .ok (.lload 8, 2) := by decide +kernel
theorem dX7_cut_140 : decode cX7_cut 140 = .ok (.lreturn, 1) := by decide +kernel
theorem dX7_cut_141 : decode cX7_cut 141 = .ok (.iload 10, 2) := by decide +kernel
theorem dX7_cut_143 : decode cX7_cut 143 = .ok (.ifCond .lt 17, 3) := by decide +kernel
theorem dX7_cut_146 : decode cX7_cut 146 = .ok (.aload_n 0, 1) := by decide +kernel
theorem dX7_cut_147 : decode cX7_cut 147 = .ok (.iload 4, 2) := by decide +kernel
theorem dX7_cut_149 : decode cX7_cut 149 = .ok (.lload 5, 2) := by decide +kernel
theorem dX7_cut_151 : decode cX7_cut 151 = .ok (.invokevirtual 119, 3) := by decide +kernel
theorem dX7_cut_154 : decode cX7_cut 154 = .ok (.iload 10, 2) := by decide +kernel
theorem dX7_cut_156 : decode cX7_cut 156 = .ok (.lshl, 1) := by decide +kernel
theorem dX7_cut_157 : decode cX7_cut 157 = .ok (.goto 26, 3) := by decide +kernel
theorem dX7_cut_160 : decode cX7_cut 160 = .ok (.iload 10, 2) := by decide +kernel
theorem dX7_cut_162 : decode cX7_cut 162 = .ok (.bipush (-62), 2) := by decide +kernel
theorem dX7_cut_164 : decode cX7_cut 164 = .ok (.if_icmp .ge 7, 3) := by decide +kernel
theorem dX7_cut_167 : decode cX7_cut 167 = .ok (.lconst 0, 1) := by decide +kernel
theorem dX7_cut_168 : decode cX7_cut 168 = .ok (.goto 15, 3) := by decide +kernel
theorem dX7_cut_171 : decode cX7_cut 171 = .ok (.aload_n 0, 1) := by decide +kernel
theorem dX7_cut_172 : decode cX7_cut 172 = .ok (.iload 4, 2) := by decide +kernel
theorem dX7_cut_174 : decode cX7_cut 174 = .ok (.lload 5, 2) := by decide +kernel
theorem dX7_cut_176 : decode cX7_cut 176 = .ok (.invokevirtual 119, 3) := by decide +kernel
theorem dX7_cut_179 : decode cX7_cut 179 = .ok (.iload 10, 2) := by decide +kernel
theorem dX7_cut_181 : decode cX7_cut 181 = .ok (.ineg, 1) := by decide +kernel
theorem dX7_cut_182 : decode cX7_cut 182 = .ok (.lshr, 1) := by decide +kernel
theorem dX7_cut_183 : decode cX7_cut 183 = .ok (.lstore 11, 2) := by decide +kernel
theorem dX7_cut_185 : decode cX7_cut 185 = .ok (.lload 11, 2) := by decide +kernel
theorem dX7_cut_187 : decode cX7_cut 187 = .ok (.lload 8, 2) := by decide +kernel
theorem dX7_cut_189 : decode cX7_cut 189 = .ok (.lcmp, 1) := by decide +kernel
theorem dX7_cut_190 : decode cX7_cut 190 = .ok (.ifCond .le 19, 3) := by decide +kernel
theorem dX7_cut_193 : decode cX7_cut 193 = .ok (.iload 7, 2) := by decide +kernel
theorem dX7_cut_195 : decode cX7_cut 195 = .ok (.ifCond .eq 11, 3) := by decide +kernel
theorem dX7_cut_198 : decode cX7_cut 198 = .ok (.lload 8, 2) := by decide +kernel
theorem dX7_cut_200 : decode cX7_cut 200 = .ok (.lneg, 1) := by decide +kernel
theorem dX7_cut_201 : decode cX7_cut 201 = .ok (.lconst 1, 1) := by decide +kernel
theorem dX7_cut_202 : decode cX7_cut 202 = .ok (.lsub, 1) := by decide +kernel
theorem dX7_cut_203 : decode cX7_cut 203 = .ok (.goto 5, 3) := by decide +kernel
theorem dX7_cut_206 : decode cX7_cut 206 = .ok (.lload 8, 2) := by decide +kernel
theorem dX7_cut_208 : decode cX7_cut 208 = .ok (.lreturn, 1) := by decide +kernel
theorem dX7_cut_209 : decode cX7_cut 209 = .ok (.iload 7, 2) := by decide +kernel
theorem dX7_cut_211 : decode cX7_cut 211 = .ok (.ifCond .eq 9, 3) := by decide +kernel
theorem dX7_cut_214 : decode cX7_cut 214 = .ok (.lload 11, 2) := by decide +kernel
theorem dX7_cut_216 : decode cX7_cut 216 = .ok (.lneg, 1) := by decide +kernel
theorem dX7_cut_217 : decode cX7_cut 217 = .ok (.goto 5, 3) := by decide +kernel
theorem dX7_cut_220 : decode cX7_cut 220 = .ok (.lload 11, 2) := by decide +kernel
theorem dX7_cut_222 : decode cX7_cut 222 = .ok (.lreturn, 1) := by decide +kernel
theorem dX7_compare_0 : decode cX7_compare 0 = .ok (.aload_n 0, 1) := by decide +kernel
theorem dX7_compare_1 : decode cX7_compare 1 = .ok (.iload_n 1, 1) := by decide +kernel
theorem dX7_compare_2 : decode cX7_compare 2 = .ok (.iload_n 2, 1) := by decide +kernel
theorem dX7_compare_3 : decode cX7_compare 3 = .ok (.invokevirtual 142, 3) := by decide +kernel
theorem dX7_compare_6 : decode cX7_compare 6 = .ok (.istore 4, 2) := by decide +kernel
theorem dX7_compare_8 : decode cX7_compare 8 = .ok (.iload 4, 2) := by decide +kernel
theorem dX7_compare_10 : decode cX7_compare 10 = .ok (.ifCond .ne 15, 3) := by decide +kernel
theorem dX7_compare_13 : decode cX7_compare 13 = .ok (.aload_n 0, 1) := by decide +kernel
theorem dX7_compare_14 : decode cX7_compare 14 = .ok (.iload_n 1, 1) := by decide +kernel
theorem dX7_compare_15 : decode cX7_compare 15 = .ok (.iload_n 3, 1) := by decide +kernel
theorem dX7_compare_16 : decode cX7_compare 16 = .ok (.invokevirtual 163, 3) := by decide +kernel
theorem dX7_compare_19 : decode cX7_compare 19 = .ok (.ifCond .eq 6, 3) := by decide +kernel
theorem dX7_compare_22 : decode cX7_compare 22 = .ok (.iconst 2, 1) := by decide +kernel
theorem dX7_compare_23 : decode cX7_compare 23 = .ok (.istore 4, 2) := by decide +kernel
theorem dX7_compare_25 : decode cX7_compare 25 = .ok (.iload 4, 2) := by decide +kernel
theorem dX7_compare_27 : decode cX7_compare 27 = .ok (.ifCond .le 10, 3) := by decide +kernel
theorem dX7_compare_30 : decode cX7_compare 30 = .ok (.aload_n 0, 1) := by decide +kernel
theorem dX7_compare_31 : decode cX7_compare 31 = .ok (.iload 4, 2) := by decide +kernel
theorem dX7_compare_33 : decode cX7_compare 33 = .ok (.invokevirtual 139, 3) := by decide +kernel
theorem dX7_compare_36 : decode cX7_compare 36 = .ok (.ireturn, 1) := by decide +kernel
theorem dX7_compare_37 : decode cX7_compare 37 = .ok (.aload_n 0, 1) := by decide +kernel
theorem dX7_compare_38 : decode cX7_compare 38 = .ok (.iconst 0, 1) := by decide +kernel
theorem dX7_compare_39 : decode cX7_compare 39 = .ok (.putfield 75, 3) := by decide +kernel
theorem dX7_compare_42 : decode cX7_compare 42 = .ok (.aload_n 0, 1) := by decide +kernel
theorem dX7_compare_43 : decode cX7_compare 43 = .ok (.getfield 51, 3) := by decide +kernel
theorem dX7_compare_46 : decode cX7_compare 46 = .ok (.iload_n 1, 1) := by decide +kernel
theorem dX7_compare_47 : decode cX7_compare 47 = .ok (.iaload, 1) := by decide +kernel
theorem dX7_compare_48 : decode cX7_compare 48 = .ok (.istore 5, 2) := by decide +kernel
theorem dX7_compare_50 : decode cX7_compare 50 = .ok (.aload_n 0, 1) := by decide +kernel
theorem dX7_compare_51 : decode cX7_compare 51 = .ok (.iload 5, 2) := by decide +kernel
theorem dX7_compare_53 : decode cX7_compare 53 = .ok (.aload_n 0, 1) := by decide +kernel
theorem dX7_compare_54 : decode cX7_compare 54 = .ok (.iload_n 1, 1) := by decide +kernel
theorem dX7_compare_55 : decode cX7_compare 55 = .ok (.iload_n 2, 1) := by decide +kernel
theorem dX7_compare_56 : decode cX7_compare 56 = .ok (.invokevirtual 155, 3) := by decide +kernel
theorem dX7_compare_59 : decode cX7_compare 59 = .ok (.invokevirtual 98, 3) := by decide +kernel
theorem dX7_compare_62 : decode cX7_compare 62 = .ok (.ifCond .ne 18, 3) := by decide +kernel
theorem dX7_compare_65 : decode cX7_compare 65 = .ok (.aload_n 0, 1) := by decide +kernel
theorem dX7_compare_66 : decode cX7_compare 66 = .ok (.iload 5, 2) := by decide +kernel
theorem dX7_compare_68 : decode cX7_compare 68 = .ok (.aload_n 0, 1) := by decide +kernel
theorem dX7_compare_69 : decode cX7_compare 69 = .ok (.iload_n 1, 1) := by decide +kernel
theorem dX7_compare_70 : decode cX7_compare 70 = .ok (.iload_n 3, 1) := by decide +kernel
theorem dX7_compare_71 : decode cX7_compare 71 = .ok (.invokevirtual 155, 3) := by decide +kernel
theorem dX7_compare_74 : decode cX7_compare 74 = .ok (.invokevirtual 98, 3) := by decide +kernel
theorem dX7_compare_77 : decode cX7_compare 77 = .ok (.ifCond .eq 6, 3) := by decide +kernel
theorem dX7_compare_80 : decode cX7_compare 80 = .ok (.bipush 32, 2) := by decide +kernel
theorem dX7_compare_82 : decode cX7_compare 82 = .ok (.ireturn, 1) := by decide +kernel
theorem dX7_compare_83 : decode cX7_compare 83 = .ok (.aload_n 0, 1) := by decide +kernel
theorem dX7_compare_84 : decode cX7_compare 84 = .ok (.iload 5, 2) := by decide +kernel
theorem dX7_compare_86 : decode cX7_compare 86 = .ok (.aload_n 0, 1) := by decide +kernel
theorem dX7_compare_87 : decode cX7_compare 87 = .ok (.iload_n 1, 1) := by decide +kernel
theorem dX7_compare_88 : decode cX7_compare 88 = .ok (.iload_n 2, 1) := by decide +kernel
theorem dX7_compare_89 : decode cX7_compare 89 = .ok (.invokevirtual 155, 3) := by decide +kernel
theorem dX7_compare_92 : decode cX7_compare 92 = .ok (.invokevirtual 133, 3) := by decide +kernel
theorem dX7_compare_95 : decode cX7_compare 95 = .ok (.lstore 6, 2) := by decide +kernel
theorem dX7_compare_97 : decode cX7_compare 97 = .ok (.aload_n 0, 1) := by decide +kernel
theorem dX7_compare_98 : decode cX7_compare 98 = .ok (.iload 5, 2) := by decide +kernel
theorem dX7_compare_100 : decode cX7_compare 100 = .ok (.aload_n 0, 1) := by decide +kernel
theorem dX7_compare_101 : decode cX7_compare 101 = .ok (.iload_n 1, 1) := by decide +kernel
theorem dX7_compare_102 : decode cX7_compare 102 = .ok (.iload_n 3, 1) := by decide +kernel
theorem dX7_compare_103 : decode cX7_compare 103 = .ok (.invokevirtual 155, 3) := by decide +kernel
theorem dX7_compare_106 : decode cX7_compare 106 = .ok (.invokevirtual 133, 3) := by decide +kernel
theorem dX7_compare_109 : decode cX7_compare 109 = .ok (.lstore 8, 2) := by decide +kernel
theorem dX7_compare_111 : decode cX7_compare 111 = .ok (.lload 6, 2) := by decide +kernel
theorem dX7_compare_113 : decode cX7_compare 113 = .ok (.lload 8, 2) := by decide +kernel
theorem dX7_compare_115 : decode cX7_compare 115 = .ok (.lcmp, 1) := by decide +kernel
theorem dX7_compare_116 : decode cX7_compare 116 = .ok (.ifCond .ge 8, 3) := by decide +kernel
theorem dX7_compare_119 : decode cX7_compare 119 = .ok (.bipush 41, 2) := by decide +kernel
theorem dX7_compare_121 : decode cX7_compare 121 = .ok (.goto 18, 3) := by decide +kernel
theorem dX7_compare_124 : decode cX7_compare 124 = .ok (.lload 6, 2) := by decide +kernel
theorem dX7_compare_126 : decode cX7_compare 126 = .ok (.lload 8, 2) := by decide +kernel
theorem dX7_compare_128 : decode cX7_compare 128 = .ok (.lcmp, 1) := by decide +kernel
theorem dX7_compare_129 : decode cX7_compare 129 = .ok (.ifCond .ne 8, 3) := by decide +kernel
theorem dX7_compare_132 : decode cX7_compare 132 = .ok (.bipush 26, 2) := by decide +kernel
theorem dX7_compare_134 : decode cX7_compare 134 = .ok (.goto 5, 3) := by decide +kernel
theorem dX7_compare_137 : decode cX7_compare 137 = .ok (.bipush 52, 2) := by decide +kernel
theorem dX7_compare_139 : decode cX7_compare 139 = .ok (.ireturn, 1) := by decide +kernel
